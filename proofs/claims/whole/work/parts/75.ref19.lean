/-! THE REFERENCE: fewest, turned, caught, page, passing. -/
theorem RK_cong {E : (Int → Int) → (Int → Int) → Prop} {G G' : (Int → Int) → Prop} (h : ∀ f, G f ↔ G' f) : ∀ (j : Nat) (f : Int → Int), RK E G j f ↔ RK E G' j f := by
  intro j
  induction j with
  | zero => exact h
  | succ j ih => intro f; exact ⟨fun ⟨g, e, r⟩ => ⟨g, e, (ih g).mp r⟩, fun ⟨g, e, r⟩ => ⟨g, e, (ih g).mpr r⟩⟩
theorem TB2_R {c k : Nat} (z : TB2 c k) : TR c k := by unfold TB2 TB at z; unfold TR; omega
theorem two_4 {n : Int} (h : 0 ≤ n ∧ n ≤ 4) : (2 : Int) ^ n.toNat ≤ 16 := by
  have : n = 0 ∨ n = 1 ∨ n = 2 ∨ n = 3 ∨ n = 4 := by omega
  rcases this with rfl | rfl | rfl | rfl | rfl <;> decide
def setP (S : Int → Int) (s : Int) : Prop := 0 < S 0 ∧ 0 ≤ s ∧ s < 2 ^ (S 2).toNat
-- OutwardDoorsModel.fewest(I)I at 0
set_option maxRecDepth 20000 in
set_option maxHeartbeats 4000000 in
theorem r254_0 {X : Cst} {d : Nat} {x1 : Int} {h : AH} {Q : Post} (C_h : Lay h) (hd : 2 ≤ d)
  (w : (WF 999 (aI h 266)) ∧ (-2147483648 ≤ x1 ∧ x1 < 2147483648) ∧ (((0 < aI h 266 0 ∧ 0 ≤ x1 ∧ x1 < 2 ^ (aI h 266 2).toNat) → Ex X PG d 256 0 [some (.ref 256), some (.int (J x1)), some (.int (J (aI h 266 2))), some (.int (J (-1))), none] [] h (fun v9 h10 => v9 = none ∧ SH h h10 ∧ (WF 999 (aI h10 266)) ∧ (0 < aI h10 266 0) ∧ (0 ≤ enc (aI h10 266 0) (aI h10 266 2).toNat (nowF (aI h10 266)) ∧ enc (aI h10 266 0) (aI h10 266 2).toNat (nowF (aI h10 266)) < 32768) ∧ ((0 ≤ aI h10 272 (enc (aI h10 266 0) (aI h10 266 2).toNat (nowF (aI h10 266))) → Q (some (.int (J (aI h10 272 (enc (aI h10 266 0) (aI h10 266 2).toNat (nowF (aI h10 266))))))) h10) ∧ (¬ 0 ≤ aI h10 272 (enc (aI h10 266 0) (aI h10 266 2).toNat (nowF (aI h10 266))) → Q (some (.int (J (-2)))) h10)))) ∧ (¬ (0 < aI h 266 0 ∧ 0 ≤ x1 ∧ x1 < 2 ^ (aI h 266 2).toNat) → Q (some (.int (J (-1)))) h))) :
    Ex X PG (d + 1) 254 0 [some (.ref 256), some (.int (J x1)), none] [] h Q := by
  refine wpx_ok (cut := []) 23 d 254 0 _ _ _ _ ?_
  show hs h 256 = (0, 11) ∧ Ex X PG d 255 0 [some (.ref 256), some (.int (J x1))] [] h (fun v1 h2 => ∃ r3, v1 = some (.int r3) ∧ ((¬ r3 = (J 0) → hs h2 256 = (0, 11) ∧ ∃ q8, hR h2 256 20 = some q8 ∧ (hs h2 q8).1 = 1 ∧ ix (J 2) (hs h2 q8).2 ∧ hs h2 256 = (0, 11) ∧ Ex X PG d 256 0 [some (.ref 256), some (.int (J x1)), some (.int (hI h2 q8 (Int32.toNatClampNeg (J 2)))), some (.int (J (-1))), none] [] h2 (fun v9 h10 => v9 = none ∧ hs h10 256 = (0, 11) ∧ ∃ q11, hR h10 256 29 = some q11 ∧ hs h10 256 = (0, 11) ∧ Ex X PG d 265 0 [some (.ref 256), none, none] [] h10 (fun v12 h13 => ∃ r14, v12 = some (.int r14) ∧ (hs h13 q11).1 = 1 ∧ ix r14 (hs h13 q11).2 ∧ (((J 0) ≤ (hI h13 q11 (Int32.toNatClampNeg r14)) → Q (some (.int (hI h13 q11 (Int32.toNatClampNeg r14)))) h13) ∧ (¬ ((J 0) ≤ (hI h13 q11 (Int32.toNatClampNeg r14))) → Q (some (.int (J (-2)))) h13))))) ∧ (¬ (¬ r3 = (J 0)) → Q (some (.int (J (-1)))) h2)))
  try simp only [aI_wAL, fI_wAL, aL_wA, aL_wF, aI_wA_ne, aI_wF_ne, fI_wA_ne, fI_wF_ne, fI_wF_nk, aL_wAL_ne, J_sameA, J_sameF, aL_same, Nat.add_left_cancel_iff, Nat.add_eq_left, Nat.left_eq_add, not_false_eq_true, Nat.reduceEqDiff, Nat.reduceAdd, J_add, J_sub, J_mul, J_neg, J_and, J_or, J_xor, J_shl, J_shr, J_div, J_i2b, J_i2l, J_l2i, J_lcm, J_max, J_min, J_nab, J_nao, rdA, rdF, rdL, wA_fold, wF_fold, wL_fold, wC_fold]
  refine ⟨(ls256 C_h), ?_⟩
  obtain ⟨k4, w⟩ := w
  obtain ⟨k5, w⟩ := w
  refine m255 (h := h) (s := x1) C_h (by omega) k4 k5 ?_
  refine ⟨_, rfl, ?_⟩
  try simp only [aI_wAL, fI_wAL, aL_wA, aL_wF, aI_wA_ne, aI_wF_ne, fI_wA_ne, fI_wF_ne, fI_wF_nk, aL_wAL_ne, J_sameA, J_sameF, aL_same, Nat.add_left_cancel_iff, Nat.add_eq_left, Nat.left_eq_add, not_false_eq_true, Nat.reduceEqDiff, Nat.reduceAdd, J_add, J_sub, J_mul, J_neg, J_and, J_or, J_xor, J_shl, J_shr, J_div, J_i2b, J_i2l, J_l2i, J_lcm, J_max, J_min, J_nab, J_nao, rdA, rdF, rdL, wA_fold, wF_fold, wL_fold, wC_fold]
  refine ⟨fun c6 => ?_, fun c6 => ?_⟩
  · have t7 : (0 < aI h 266 0 ∧ 0 ≤ x1 ∧ x1 < 2 ^ (aI h 266 2).toNat) := (Classical.byContradiction fun n => c6 ((bI0 _).mpr n))
    replace w := w.1 t7
    refine ⟨(ls256 C_h), _, (lr256_20 C_h), ?_⟩
    refine ⟨congrArg Prod.fst (ls266 C_h), ixs (ls266 C_h) (by decide) (by decide), ?_⟩
    refine ⟨(ls256 C_h), ?_⟩
    refine Ex.mono w (Nat.le_refl _) ?_
    rintro v9 h10 ⟨rfl, s20, w⟩
    refine ⟨rfl, ?_⟩
    have C_h10 := Lay_SH s20 C_h
    try simp only [aI_wAL, fI_wAL, aL_wA, aL_wF, aI_wA_ne, aI_wF_ne, fI_wA_ne, fI_wF_ne, fI_wF_nk, aL_wAL_ne, J_sameA, J_sameF, aL_same, Nat.add_left_cancel_iff, Nat.add_eq_left, Nat.left_eq_add, not_false_eq_true, Nat.reduceEqDiff, Nat.reduceAdd, J_add, J_sub, J_mul, J_neg, J_and, J_or, J_xor, J_shl, J_shr, J_div, J_i2b, J_i2l, J_l2i, J_lcm, J_max, J_min, J_nab, J_nao, rdA, rdF, rdL, wA_fold, wF_fold, wL_fold, wC_fold]
    refine ⟨(ls256 C_h10), _, (lr256_29 C_h10), ?_⟩
    refine ⟨(ls256 C_h10), ?_⟩
    obtain ⟨k15, w⟩ := w
    obtain ⟨k16, w⟩ := w
    refine m265 (h := h10)  C_h10 (by omega) k15 k16 ?_
    refine ⟨_, rfl, ?_⟩
    try simp only [aI_wAL, fI_wAL, aL_wA, aL_wF, aI_wA_ne, aI_wF_ne, fI_wA_ne, fI_wF_ne, fI_wF_nk, aL_wAL_ne, J_sameA, J_sameF, aL_same, Nat.add_left_cancel_iff, Nat.add_eq_left, Nat.left_eq_add, not_false_eq_true, Nat.reduceEqDiff, Nat.reduceAdd, J_add, J_sub, J_mul, J_neg, J_and, J_or, J_xor, J_shl, J_shr, J_div, J_i2b, J_i2l, J_l2i, J_lcm, J_max, J_min, J_nab, J_nao, rdA, rdF, rdL, wA_fold, wF_fold, wL_fold, wC_fold]
    obtain ⟨k17, w⟩ := w
    refine ⟨congrArg Prod.fst (ls272 C_h10), ixs (ls272 C_h10) k17 (by decide), ?_⟩
    refine ⟨fun c18 => ?_, fun c18 => ?_⟩
    · have t19 : 0 ≤ aI h10 272 (enc (aI h10 266 0) (aI h10 266 2).toNat (nowF (aI h10 266))) := ((Jle (by decide) (rg_toInt _)).mp c18)
      replace w := w.1 t19
      exact w
    · have t19 : ¬ 0 ≤ aI h10 272 (enc (aI h10 266 0) (aI h10 266 2).toNat (nowF (aI h10 266))) := (fun e => c18 ((Jle (by decide) (rg_toInt _)).mpr e))
      replace w := w.2 t19
      exact w
  · have t7 : ¬ (0 < aI h 266 0 ∧ 0 ≤ x1 ∧ x1 < 2 ^ (aI h 266 2).toNat) := ((bI0 _).mp (Classical.byContradiction fun n => c6 n))
    replace w := w.2 t7
    exact w
theorem m254 {X : Cst} {d : Nat} {s M : Int} {S : Int → Int} {h : AH} {Q : Post} (C : Lay h) (hd : 8 ≤ d) (eS : aI h 266 = S) (W : WF M S) (hM : M ≤ 999) (g : -2147483648 ≤ s ∧ s < 2147483648)
    (k0 : ¬ setP S s → Q (some (.int (J (-1)))) h) (k : setP S s → ∀ h' v, Fr TR h h' → IsD (Edg S (nightP S) (S 2).toNat (-1)) (atG S s) (nowF S) v → Q (some (.int (J (if v < 0 then -2 else v)))) h') : Ex X PG d 254 0 [some (.ref 256), some (.int (J s)), none] [] h Q := by
  obtain ⟨d, rfl⟩ : ∃ e, d = e + 1 := ⟨d - 1, by omega⟩
  have b := W.1
  unfold WFb at b
  have W9 : WF 999 S := W.up hM
  have t4 := two_4 (n := S 2) (by omega)
  refine r254_0 C (by omega) ?_
  rw [eS]
  refine ⟨W9, g, fun c => ?_, fun c => k0 c⟩
  refine m256 C (by omega) eS W hM c.1 (by omega) (by unfold setP at k; omega) (by decide) (fun h2 F2 r2 => ⟨rfl, F2.1, ?_⟩)
  have e2 : aI h2 266 = S := by rw [F2.a 266 (fun k z => by unfold TB2 TB at z; omega)]; exact eS
  have kn := nowF_K W
  have eb := enc_b c.1 _ _ kn.1
  have pw := pw_32k c.1 b.2.1 (m := (S 2).toNat) (by omega)
  rw [e2]
  have q := k c h2 _ (F2.mo fun c k z => TB2_R z) (r2 _ kn)
  refine ⟨W9, c.1, by omega, fun c2 => ?_, fun c2 => ?_⟩
  · rw [if_neg (by omega)] at q; exact q
  · rw [if_pos (by omega)] at q; exact q
-- OutwardDoorsModel.turned(II)I at 0
set_option maxRecDepth 20000 in
set_option maxHeartbeats 4000000 in
theorem r272_0 {X : Cst} {d : Nat} {x1 : Int} {x2 : Int} {h : AH} {Q : Post} (C_h : Lay h) (hd : 2 ≤ d)
  (w : (WF 999 (aI h 266)) ∧ (-2147483648 ≤ x2 ∧ x2 < 2147483648) ∧ ((¬ (0 < aI h 266 0 ∧ 0 ≤ x2 ∧ x2 < 2 ^ (aI h 266 2).toNat) → Q (some (.int (J (-1)))) h) ∧ ((0 < aI h 266 0 ∧ 0 ≤ x2 ∧ x2 < 2 ^ (aI h 266 2).toNat) → (-2147483648 ≤ x1 ∧ x1 < 2147483648) ∧ ((¬ (0 ≤ x1 ∧ x1 < aI h 266 1) → Q (some (.int (J (-1)))) h) ∧ ((0 ≤ x1 ∧ x1 < aI h 266 1) → (0 ≤ x1 ∧ x1 < aI h 266 1) ∧ (((opn (aI h 266) (nightP (aI h 266)) x1) → Ex X PG d 256 0 [some (.ref 256), some (.int (J x2)), some (.int (J (aI h 266 2))), some (.int (J x1)), none] [] h (fun v21 h22 => v21 = none ∧ SH h h22 ∧ (WF 999 (aI h22 266)) ∧ (0 < aI h22 266 0) ∧ (0 ≤ enc (aI h22 266 0) (aI h22 266 2).toNat (nowF (aI h22 266)) ∧ enc (aI h22 266 0) (aI h22 266 2).toNat (nowF (aI h22 266)) < 32768) ∧ ((0 ≤ aI h22 272 (enc (aI h22 266 0) (aI h22 266 2).toNat (nowF (aI h22 266))) → Q (some (.int (J (aI h22 272 (enc (aI h22 266 0) (aI h22 266 2).toNat (nowF (aI h22 266))))))) h22) ∧ (¬ 0 ≤ aI h22 272 (enc (aI h22 266 0) (aI h22 266 2).toNat (nowF (aI h22 266))) → Q (some (.int (J (-2)))) h22)))) ∧ (¬ (opn (aI h 266) (nightP (aI h 266)) x1) → Q (some (.int (J (-1)))) h))))))) :
    Ex X PG (d + 1) 272 0 [some (.ref 256), some (.int (J x1)), some (.int (J x2)), none] [] h Q := by
  refine wpx_ok (cut := []) 31 d 272 0 _ _ _ _ ?_
  show hs h 256 = (0, 11) ∧ Ex X PG d 255 0 [some (.ref 256), some (.int (J x2))] [] h (fun v1 h2 => ∃ r3, v1 = some (.int r3) ∧ ((r3 = (J 0) → Q (some (.int (J (-1)))) h2) ∧ (¬ (r3 = (J 0)) → hs h2 256 = (0, 11) ∧ Ex X PG d 228 0 [some (.ref 256), some (.int (J x1))] [] h2 (fun v8 h9 => ∃ r10, v8 = some (.int r10) ∧ ((r10 = (J 0) → Q (some (.int (J (-1)))) h9) ∧ (¬ (r10 = (J 0)) → hs h9 256 = (0, 11) ∧ Ex X PG d 217 0 [some (.ref 256), some (.int (J x1))] [] h9 (fun v14 h15 => ∃ r16, v14 = some (.int r16) ∧ ((¬ r16 = (J 0) → hs h15 256 = (0, 11) ∧ ∃ q20, hR h15 256 20 = some q20 ∧ (hs h15 q20).1 = 1 ∧ ix (J 2) (hs h15 q20).2 ∧ hs h15 256 = (0, 11) ∧ Ex X PG d 256 0 [some (.ref 256), some (.int (J x2)), some (.int (hI h15 q20 (Int32.toNatClampNeg (J 2)))), some (.int (J x1)), none] [] h15 (fun v21 h22 => v21 = none ∧ hs h22 256 = (0, 11) ∧ ∃ q23, hR h22 256 29 = some q23 ∧ hs h22 256 = (0, 11) ∧ Ex X PG d 265 0 [some (.ref 256), none, none] [] h22 (fun v24 h25 => ∃ r26, v24 = some (.int r26) ∧ (hs h25 q23).1 = 1 ∧ ix r26 (hs h25 q23).2 ∧ (((J 0) ≤ (hI h25 q23 (Int32.toNatClampNeg r26)) → Q (some (.int (hI h25 q23 (Int32.toNatClampNeg r26)))) h25) ∧ (¬ ((J 0) ≤ (hI h25 q23 (Int32.toNatClampNeg r26))) → Q (some (.int (J (-2)))) h25))))) ∧ (¬ (¬ r16 = (J 0)) → Q (some (.int (J (-1)))) h15)))))))))
  try simp only [aI_wAL, fI_wAL, aL_wA, aL_wF, aI_wA_ne, aI_wF_ne, fI_wA_ne, fI_wF_ne, fI_wF_nk, aL_wAL_ne, J_sameA, J_sameF, aL_same, Nat.add_left_cancel_iff, Nat.add_eq_left, Nat.left_eq_add, not_false_eq_true, Nat.reduceEqDiff, Nat.reduceAdd, J_add, J_sub, J_mul, J_neg, J_and, J_or, J_xor, J_shl, J_shr, J_div, J_i2b, J_i2l, J_l2i, J_lcm, J_max, J_min, J_nab, J_nao, rdA, rdF, rdL, wA_fold, wF_fold, wL_fold, wC_fold]
  refine ⟨(ls256 C_h), ?_⟩
  obtain ⟨k4, w⟩ := w
  obtain ⟨k5, w⟩ := w
  refine m255 (h := h) (s := x2) C_h (by omega) k4 k5 ?_
  refine ⟨_, rfl, ?_⟩
  try simp only [aI_wAL, fI_wAL, aL_wA, aL_wF, aI_wA_ne, aI_wF_ne, fI_wA_ne, fI_wF_ne, fI_wF_nk, aL_wAL_ne, J_sameA, J_sameF, aL_same, Nat.add_left_cancel_iff, Nat.add_eq_left, Nat.left_eq_add, not_false_eq_true, Nat.reduceEqDiff, Nat.reduceAdd, J_add, J_sub, J_mul, J_neg, J_and, J_or, J_xor, J_shl, J_shr, J_div, J_i2b, J_i2l, J_l2i, J_lcm, J_max, J_min, J_nab, J_nao, rdA, rdF, rdL, wA_fold, wF_fold, wL_fold, wC_fold]
  refine ⟨fun c6 => ?_, fun c6 => ?_⟩
  · have t7 : ¬ (0 < aI h 266 0 ∧ 0 ≤ x2 ∧ x2 < 2 ^ (aI h 266 2).toNat) := ((bI0 _).mp c6)
    replace w := w.1 t7
    exact w
  · have t7 : (0 < aI h 266 0 ∧ 0 ≤ x2 ∧ x2 < 2 ^ (aI h 266 2).toNat) := (Classical.byContradiction fun n => c6 ((bI0 _).mpr n))
    replace w := w.2 t7
    refine ⟨(ls256 C_h), ?_⟩
    obtain ⟨k11, w⟩ := w
    refine m228 (h := h) (x := x1) C_h (by omega) k11 ?_
    refine ⟨_, rfl, ?_⟩
    try simp only [aI_wAL, fI_wAL, aL_wA, aL_wF, aI_wA_ne, aI_wF_ne, fI_wA_ne, fI_wF_ne, fI_wF_nk, aL_wAL_ne, J_sameA, J_sameF, aL_same, Nat.add_left_cancel_iff, Nat.add_eq_left, Nat.left_eq_add, not_false_eq_true, Nat.reduceEqDiff, Nat.reduceAdd, J_add, J_sub, J_mul, J_neg, J_and, J_or, J_xor, J_shl, J_shr, J_div, J_i2b, J_i2l, J_l2i, J_lcm, J_max, J_min, J_nab, J_nao, rdA, rdF, rdL, wA_fold, wF_fold, wL_fold, wC_fold]
    refine ⟨fun c12 => ?_, fun c12 => ?_⟩
    · have t13 : ¬ (0 ≤ x1 ∧ x1 < aI h 266 1) := ((bI0 _).mp c12)
      replace w := w.1 t13
      exact w
    · have t13 : (0 ≤ x1 ∧ x1 < aI h 266 1) := (Classical.byContradiction fun n => c12 ((bI0 _).mpr n))
      replace w := w.2 t13
      refine ⟨(ls256 C_h), ?_⟩
      obtain ⟨k17, w⟩ := w
      refine m217 (h := h) (x := x1) C_h (by omega) k4 k17 ?_
      refine ⟨_, rfl, ?_⟩
      try simp only [aI_wAL, fI_wAL, aL_wA, aL_wF, aI_wA_ne, aI_wF_ne, fI_wA_ne, fI_wF_ne, fI_wF_nk, aL_wAL_ne, J_sameA, J_sameF, aL_same, Nat.add_left_cancel_iff, Nat.add_eq_left, Nat.left_eq_add, not_false_eq_true, Nat.reduceEqDiff, Nat.reduceAdd, J_add, J_sub, J_mul, J_neg, J_and, J_or, J_xor, J_shl, J_shr, J_div, J_i2b, J_i2l, J_l2i, J_lcm, J_max, J_min, J_nab, J_nao, rdA, rdF, rdL, wA_fold, wF_fold, wL_fold, wC_fold]
      refine ⟨fun c18 => ?_, fun c18 => ?_⟩
      · have t19 : (opn (aI h 266) (nightP (aI h 266)) x1) := (Classical.byContradiction fun n => c18 ((bI0 _).mpr n))
        replace w := w.1 t19
        refine ⟨(ls256 C_h), _, (lr256_20 C_h), ?_⟩
        refine ⟨congrArg Prod.fst (ls266 C_h), ixs (ls266 C_h) (by decide) (by decide), ?_⟩
        refine ⟨(ls256 C_h), ?_⟩
        refine Ex.mono w (Nat.le_refl _) ?_
        rintro v21 h22 ⟨rfl, s32, w⟩
        refine ⟨rfl, ?_⟩
        have C_h22 := Lay_SH s32 C_h
        try simp only [aI_wAL, fI_wAL, aL_wA, aL_wF, aI_wA_ne, aI_wF_ne, fI_wA_ne, fI_wF_ne, fI_wF_nk, aL_wAL_ne, J_sameA, J_sameF, aL_same, Nat.add_left_cancel_iff, Nat.add_eq_left, Nat.left_eq_add, not_false_eq_true, Nat.reduceEqDiff, Nat.reduceAdd, J_add, J_sub, J_mul, J_neg, J_and, J_or, J_xor, J_shl, J_shr, J_div, J_i2b, J_i2l, J_l2i, J_lcm, J_max, J_min, J_nab, J_nao, rdA, rdF, rdL, wA_fold, wF_fold, wL_fold, wC_fold]
        refine ⟨(ls256 C_h22), _, (lr256_29 C_h22), ?_⟩
        refine ⟨(ls256 C_h22), ?_⟩
        obtain ⟨k27, w⟩ := w
        obtain ⟨k28, w⟩ := w
        refine m265 (h := h22)  C_h22 (by omega) k27 k28 ?_
        refine ⟨_, rfl, ?_⟩
        try simp only [aI_wAL, fI_wAL, aL_wA, aL_wF, aI_wA_ne, aI_wF_ne, fI_wA_ne, fI_wF_ne, fI_wF_nk, aL_wAL_ne, J_sameA, J_sameF, aL_same, Nat.add_left_cancel_iff, Nat.add_eq_left, Nat.left_eq_add, not_false_eq_true, Nat.reduceEqDiff, Nat.reduceAdd, J_add, J_sub, J_mul, J_neg, J_and, J_or, J_xor, J_shl, J_shr, J_div, J_i2b, J_i2l, J_l2i, J_lcm, J_max, J_min, J_nab, J_nao, rdA, rdF, rdL, wA_fold, wF_fold, wL_fold, wC_fold]
        obtain ⟨k29, w⟩ := w
        refine ⟨congrArg Prod.fst (ls272 C_h22), ixs (ls272 C_h22) k29 (by decide), ?_⟩
        refine ⟨fun c30 => ?_, fun c30 => ?_⟩
        · have t31 : 0 ≤ aI h22 272 (enc (aI h22 266 0) (aI h22 266 2).toNat (nowF (aI h22 266))) := ((Jle (by decide) (rg_toInt _)).mp c30)
          replace w := w.1 t31
          exact w
        · have t31 : ¬ 0 ≤ aI h22 272 (enc (aI h22 266 0) (aI h22 266 2).toNat (nowF (aI h22 266))) := (fun e => c30 ((Jle (by decide) (rg_toInt _)).mpr e))
          replace w := w.2 t31
          exact w
      · have t19 : ¬ (opn (aI h 266) (nightP (aI h 266)) x1) := ((bI0 _).mp (Classical.byContradiction fun n => c18 n))
        replace w := w.2 t19
        exact w
theorem m272 {X : Cst} {d : Nat} {s w M : Int} {S : Int → Int} {h : AH} {Q : Post} (C : Lay h) (hd : 8 ≤ d) (eS : aI h 266 = S) (W : WF M S) (hM : M ≤ 999) (g1 : -2147483648 ≤ w ∧ w < 2147483648) (g : -2147483648 ≤ s ∧ s < 2147483648)
    (k0 : ¬ (setP S s ∧ (0 ≤ w ∧ w < S 1) ∧ opn S (nightP S) w) → Q (some (.int (J (-1)))) h) (k : (setP S s ∧ (0 ≤ w ∧ w < S 1) ∧ opn S (nightP S) w) → ∀ h' v, Fr TR h h' → IsD (Edg S (nightP S) (S 2).toNat w) (atG S s) (nowF S) v → Q (some (.int (J (if v < 0 then -2 else v)))) h') : Ex X PG d 272 0 [some (.ref 256), some (.int (J w)), some (.int (J s)), none] [] h Q := by
  obtain ⟨d, rfl⟩ : ∃ e, d = e + 1 := ⟨d - 1, by omega⟩
  have b := W.1
  unfold WFb at b
  have W9 : WF 999 S := W.up hM
  have t4 := two_4 (n := S 2) (by omega)
  refine r272_0 C (by omega) ?_
  rw [eS]
  refine ⟨W9, g, fun c => k0 (fun z => c z.1), fun c => ⟨g1, fun c1 => k0 (fun z => c1 z.2.1), fun c1 => ⟨c1, fun c2 => ?_, fun c2 => k0 (fun z => c2 z.2.2)⟩⟩⟩
  refine m256 C (by omega) eS W hM c.1 (by omega) (by omega) g1 (fun h2 F2 r2 => ⟨rfl, F2.1, ?_⟩)
  have e2 : aI h2 266 = S := by rw [F2.a 266 (fun k z => by unfold TB2 TB at z; omega)]; exact eS
  have kn := nowF_K W
  have eb := enc_b c.1 _ _ kn.1
  have pw := pw_32k c.1 b.2.1 (m := (S 2).toNat) (by omega)
  rw [e2]
  have q := k ⟨c, c1, c2⟩ h2 _ (F2.mo fun c k z => TB2_R z) (r2 _ kn)
  refine ⟨W9, c.1, by omega, fun c2 => ?_, fun c2 => ?_⟩
  · rw [if_neg (by omega)] at q; exact q
  · rw [if_pos (by omega)] at q; exact q
theorem bt_pow {p q : Int} (hp : 0 ≤ p ∧ p < 31) (hq : 0 ≤ q) : bt ((2 ^ p.toNat : Nat) : Int) q ↔ q = p := by
  unfold bt
  rw [Int.toNat_natCast, Nat.testBit_two_pow]
  simp
  omega
theorem atG_pow {S f : Int → Int} {p : Int} (h4 : S 2 ≤ 4) (hp : 0 ≤ p ∧ p < S 2) : atG S ((2 ^ p.toNat : Nat) : Int) f ↔ f p = pS S p 1 := by
  constructor
  · intro z; exact z p hp.1 hp.2 ((bt_pow (by omega) hp.1).mpr rfl)
  · intro z q q0 q1 hb
    have := (bt_pow (by omega) q0).mp hb
    subst this; exact z
/-- where p wants to come, or be away from -/
def cG (S : Int → Int) (w p : Int) (f : Int → Int) : Prop := (w = 0 ∧ f p = pS S p 1) ∨ (¬ w = 0 ∧ ¬ f p = pS S p 0)
def cauP (S : Int → Int) (w : Int) (p : Nat) : Prop := ∀ j, ¬ RK (Edg S (nightP S) (S 2).toNat (-1)) (cG S w p) j (nowF S)
noncomputable def anCaught (S : Int → Int) (w : Int) : Int := if 0 < S 0 ∧ (0 ≤ w ∧ w ≤ 1) then ((bset (S 2).toNat (cauP S w) : Nat) : Int) else -1
-- OutwardDoorsModel.caught(I)I at 0
set_option maxRecDepth 20000 in
set_option maxHeartbeats 4000000 in
theorem r268_0 {X : Cst} {d : Nat} {x1 : Int} {h : AH} {Q : Post} (C_h : Lay h) (hd : 2 ≤ d)
  (w : ((¬ (0 < aI h 266 0) → Q (some (.int (J (-1)))) h) ∧ ((0 < aI h 266 0) → (-2147483648 ≤ x1 ∧ x1 < 2147483648) ∧ (((0 ≤ x1 ∧ x1 ≤ 1) → (WF 999 (aI h 266)) ∧ (0 < aI h 266 0) ∧ Ex X PG (d + 1) 268 29 [some (.ref 256), some (.int (J x1)), some (.int (J 0)), some (.int (J (enc (aI h 266 0) (aI h 266 2).toNat (nowF (aI h 266))))), some (.int (J 0)), none] [] h Q) ∧ (¬ (0 ≤ x1 ∧ x1 ≤ 1) → Q (some (.int (J (-1)))) h))))) :
    Ex X PG (d + 1) 268 0 [some (.ref 256), some (.int (J x1)), none, none, none, none] [] h Q := by
  refine wpx_ok (cut := [29, 75]) 16 d 268 0 _ _ _ _ ?_
  show hs h 256 = (0, 11) ∧ Ex X PG d 231 0 [some (.ref 256)] [] h (fun v1 h2 => ∃ r3, v1 = some (.int r3) ∧ ((r3 = (J 0) → Q (some (.int (J (-1)))) h2) ∧ (¬ (r3 = (J 0)) → Ex X PG d 186 0 [some (.long (Int32.toInt64 (J x1))), none, some (.long (0 : Int64)), none, some (.long (1 : Int64)), none] [] h2 (fun v6 h7 => ∃ r8, v6 = some (.int r8) ∧ ((¬ r8 = (J 0) → hs h7 256 = (0, 11) ∧ Ex X PG d 265 0 [some (.ref 256), none, none] [] h7 (fun v12 h13 => ∃ r14, v12 = some (.int r14) ∧ Ex X PG (d + 1) 268 29 [some (.ref 256), some (.int (J x1)), some (.int (J 0)), some (.int r14), some (.int (J 0)), none] [] h13 Q)) ∧ (¬ (¬ r8 = (J 0)) → Q (some (.int (J (-1)))) h7))))))
  try simp only [aI_wAL, fI_wAL, aL_wA, aL_wF, aI_wA_ne, aI_wF_ne, fI_wA_ne, fI_wF_ne, fI_wF_nk, aL_wAL_ne, J_sameA, J_sameF, aL_same, Nat.add_left_cancel_iff, Nat.add_eq_left, Nat.left_eq_add, not_false_eq_true, Nat.reduceEqDiff, Nat.reduceAdd, J_add, J_sub, J_mul, J_neg, J_and, J_or, J_xor, J_shl, J_shr, J_div, J_i2b, J_i2l, J_l2i, J_lcm, J_max, J_min, J_nab, J_nao, rdA, rdF, rdL, wA_fold, wF_fold, wL_fold, wC_fold]
  refine ⟨(ls256 C_h), ?_⟩
  refine m231 (h := h)  C_h (by omega)  ?_
  refine ⟨_, rfl, ?_⟩
  try simp only [aI_wAL, fI_wAL, aL_wA, aL_wF, aI_wA_ne, aI_wF_ne, fI_wA_ne, fI_wF_ne, fI_wF_nk, aL_wAL_ne, J_sameA, J_sameF, aL_same, Nat.add_left_cancel_iff, Nat.add_eq_left, Nat.left_eq_add, not_false_eq_true, Nat.reduceEqDiff, Nat.reduceAdd, J_add, J_sub, J_mul, J_neg, J_and, J_or, J_xor, J_shl, J_shr, J_div, J_i2b, J_i2l, J_l2i, J_lcm, J_max, J_min, J_nab, J_nao, rdA, rdF, rdL, wA_fold, wF_fold, wL_fold, wC_fold]
  refine ⟨fun c4 => ?_, fun c4 => ?_⟩
  · have t5 : ¬ (0 < aI h 266 0) := ((bI0 _).mp c4)
    replace w := w.1 t5
    exact w
  · have t5 : (0 < aI h 266 0) := (Classical.byContradiction fun n => c4 ((bI0 _).mpr n))
    replace w := w.2 t5
    obtain ⟨k9, w⟩ := w
    refine m186 (h := h) (v := x1) (lo := 0) (hi := 1) C_h (by omega) k9 (by decide) (by decide) ?_
    refine ⟨_, rfl, ?_⟩
    try simp only [aI_wAL, fI_wAL, aL_wA, aL_wF, aI_wA_ne, aI_wF_ne, fI_wA_ne, fI_wF_ne, fI_wF_nk, aL_wAL_ne, J_sameA, J_sameF, aL_same, Nat.add_left_cancel_iff, Nat.add_eq_left, Nat.left_eq_add, not_false_eq_true, Nat.reduceEqDiff, Nat.reduceAdd, J_add, J_sub, J_mul, J_neg, J_and, J_or, J_xor, J_shl, J_shr, J_div, J_i2b, J_i2l, J_l2i, J_lcm, J_max, J_min, J_nab, J_nao, rdA, rdF, rdL, wA_fold, wF_fold, wL_fold, wC_fold]
    refine ⟨fun c10 => ?_, fun c10 => ?_⟩
    · have t11 : (0 ≤ x1 ∧ x1 ≤ 1) := (Classical.byContradiction fun n => c10 ((bI0 _).mpr n))
      replace w := w.1 t11
      refine ⟨(ls256 C_h), ?_⟩
      obtain ⟨k15, w⟩ := w
      obtain ⟨k16, w⟩ := w
      refine m265 (h := h)  C_h (by omega) k15 k16 ?_
      refine ⟨_, rfl, ?_⟩
      try simp only [aI_wAL, fI_wAL, aL_wA, aL_wF, aI_wA_ne, aI_wF_ne, fI_wA_ne, fI_wF_ne, fI_wF_nk, aL_wAL_ne, J_sameA, J_sameF, aL_same, Nat.add_left_cancel_iff, Nat.add_eq_left, Nat.left_eq_add, not_false_eq_true, Nat.reduceEqDiff, Nat.reduceAdd, J_add, J_sub, J_mul, J_neg, J_and, J_or, J_xor, J_shl, J_shr, J_div, J_i2b, J_i2l, J_l2i, J_lcm, J_max, J_min, J_nab, J_nao, rdA, rdF, rdL, wA_fold, wF_fold, wL_fold, wC_fold]
      exact w
    · have t11 : ¬ (0 ≤ x1 ∧ x1 ≤ 1) := ((bI0 _).mp (Classical.byContradiction fun n => c10 n))
      replace w := w.2 t11
      exact w
-- OutwardDoorsModel.caught(I)I at 29
set_option maxRecDepth 20000 in
set_option maxHeartbeats 4000000 in
theorem r268_29 {X : Cst} {d : Nat} {x1 : Int} {x2 : Int} {x3 : Int} {x4 : Int} {l5 : Option Value} {h : AH} {Q : Post} (C_h : Lay h)
  (w : (-2147483648 ≤ x4 ∧ x4 < 2147483648) ∧ ((aI h 266 2 ≤ x4 → Q (some (.int (J x2))) h) ∧ (¬ aI h 266 2 ≤ x4 → (-2147483648 ≤ x1 ∧ x1 < 2147483648) ∧ ((¬ x1 = 0 → Ex X PG d 257 0 [some (.ref 256), some (.int (J (aI h 266 2))), none] [] h (fun v9 h10 => v9 = none ∧ SH h h10 ∧ Ex X PG (d + 1) 268 75 [some (.ref 256), some (.int (J x1)), some (.int (J x2)), some (.int (J x3)), some (.int (J x4)), some (.int (J 0))] [] h10 Q)) ∧ (x1 = 0 → Ex X PG d 256 0 [some (.ref 256), some (.int (J (shl 1 (iand x4 31)))), some (.int (J (aI h 266 2))), some (.int (J (-1))), none] [] h (fun v13 h14 => v13 = none ∧ SH h h14 ∧ (0 ≤ x3 ∧ x3 < 32768) ∧ ((0 ≤ aI h14 272 x3 → Ex X PG (d + 1) 268 29 [some (.ref 256), some (.int (J x1)), some (.int (J (ior x2 0))), some (.int (J x3)), some (.int (J (x4 + 1))), l5] [] h14 Q) ∧ (¬ 0 ≤ aI h14 272 x3 → Ex X PG (d + 1) 268 29 [some (.ref 256), some (.int (J x1)), some (.int (J (ior x2 (shl 1 (iand x4 31))))), some (.int (J x3)), some (.int (J (x4 + 1))), l5] [] h14 Q)))))))) :
    Ex X PG (d + 1) 268 29 [some (.ref 256), some (.int (J x1)), some (.int (J x2)), some (.int (J x3)), some (.int (J x4)), l5] [] h Q := by
  refine wpx_ok (cut := [29, 75]) 33 d 268 29 _ _ _ _ ?_
  show hs h 256 = (0, 11) ∧ ∃ q1, hR h 256 20 = some q1 ∧ (hs h q1).1 = 1 ∧ ix (J 2) (hs h q1).2 ∧ (((hI h q1 (Int32.toNatClampNeg (J 2))) ≤ (J x4) → Q (some (.int (J x2))) h) ∧ (¬ ((hI h q1 (Int32.toNatClampNeg (J 2))) ≤ (J x4)) → ((¬ (J x1) = (J 0) → hs h 256 = (0, 11) ∧ ∃ q8, hR h 256 20 = some q8 ∧ (hs h q8).1 = 1 ∧ ix (J 2) (hs h q8).2 ∧ hs h 256 = (0, 11) ∧ Ex X PG d 257 0 [some (.ref 256), some (.int (hI h q8 (Int32.toNatClampNeg (J 2)))), none] [] h (fun v9 h10 => v9 = none ∧ Ex X PG (d + 1) 268 75 [some (.ref 256), some (.int (J x1)), some (.int (J x2)), some (.int (J x3)), some (.int (J x4)), some (.int (J 0))] [] h10 Q)) ∧ (¬ (¬ (J x1) = (J 0)) → hs h 256 = (0, 11) ∧ ∃ q12, hR h 256 20 = some q12 ∧ (hs h q12).1 = 1 ∧ ix (J 2) (hs h q12).2 ∧ hs h 256 = (0, 11) ∧ Ex X PG d 256 0 [some (.ref 256), some (.int ((J 1) <<< ((J x4) &&& J 31))), some (.int (hI h q12 (Int32.toNatClampNeg (J 2)))), some (.int (J (-1))), none] [] h (fun v13 h14 => v13 = none ∧ hs h14 256 = (0, 11) ∧ ∃ q15, hR h14 256 29 = some q15 ∧ (hs h14 q15).1 = 1 ∧ ix (J x3) (hs h14 q15).2 ∧ (((J 0) ≤ (hI h14 q15 (Int32.toNatClampNeg (J x3))) → Ex X PG (d + 1) 268 29 [some (.ref 256), some (.int (J x1)), some (.int ((J x2) ||| (J 0))), some (.int (J x3)), some (.int ((J x4) + (J 1))), l5] [] h14 Q) ∧ (¬ ((J 0) ≤ (hI h14 q15 (Int32.toNatClampNeg (J x3)))) → Ex X PG (d + 1) 268 29 [some (.ref 256), some (.int (J x1)), some (.int ((J x2) ||| ((J 1) <<< ((J x4) &&& J 31)))), some (.int (J x3)), some (.int ((J x4) + (J 1))), l5] [] h14 Q)))))))
  try simp only [aI_wAL, fI_wAL, aL_wA, aL_wF, aI_wA_ne, aI_wF_ne, fI_wA_ne, fI_wF_ne, fI_wF_nk, aL_wAL_ne, J_sameA, J_sameF, aL_same, Nat.add_left_cancel_iff, Nat.add_eq_left, Nat.left_eq_add, not_false_eq_true, Nat.reduceEqDiff, Nat.reduceAdd, J_add, J_sub, J_mul, J_neg, J_and, J_or, J_xor, J_shl, J_shr, J_div, J_i2b, J_i2l, J_l2i, J_lcm, J_max, J_min, J_nab, J_nao, rdA, rdF, rdL, wA_fold, wF_fold, wL_fold, wC_fold]
  refine ⟨(ls256 C_h), _, (lr256_20 C_h), ?_⟩
  refine ⟨congrArg Prod.fst (ls266 C_h), ixs (ls266 C_h) (by decide) (by decide), ?_⟩
  obtain ⟨k4, w⟩ := w
  refine ⟨fun c2 => ?_, fun c2 => ?_⟩
  · have t3 : aI h 266 2 ≤ x4 := ((Jle (rg_toInt _) k4).mp c2)
    replace w := w.1 t3
    exact w
  · have t3 : ¬ aI h 266 2 ≤ x4 := (fun e => c2 ((Jle (rg_toInt _) k4).mpr e))
    replace w := w.2 t3
    obtain ⟨k7, w⟩ := w
    refine ⟨fun c5 => ?_, fun c5 => ?_⟩
    · have t6 : ¬ x1 = 0 := (fun e => c5 ((Jeq k7 (by decide)).mpr e))
      replace w := w.1 t6
      refine ⟨(ls256 C_h), _, (lr256_20 C_h), ?_⟩
      refine ⟨congrArg Prod.fst (ls266 C_h), ixs (ls266 C_h) (by decide) (by decide), ?_⟩
      refine ⟨(ls256 C_h), ?_⟩
      refine Ex.mono w (Nat.le_refl _) ?_
      rintro v9 h10 ⟨rfl, s11, w⟩
      refine ⟨rfl, ?_⟩
      have C_h10 := Lay_SH s11 C_h
      try simp only [aI_wAL, fI_wAL, aL_wA, aL_wF, aI_wA_ne, aI_wF_ne, fI_wA_ne, fI_wF_ne, fI_wF_nk, aL_wAL_ne, J_sameA, J_sameF, aL_same, Nat.add_left_cancel_iff, Nat.add_eq_left, Nat.left_eq_add, not_false_eq_true, Nat.reduceEqDiff, Nat.reduceAdd, J_add, J_sub, J_mul, J_neg, J_and, J_or, J_xor, J_shl, J_shr, J_div, J_i2b, J_i2l, J_l2i, J_lcm, J_max, J_min, J_nab, J_nao, rdA, rdF, rdL, wA_fold, wF_fold, wL_fold, wC_fold]
      exact w
    · have t6 : x1 = 0 := ((Jeq k7 (by decide)).mp (Classical.byContradiction c5))
      replace w := w.2 t6
      refine ⟨(ls256 C_h), _, (lr256_20 C_h), ?_⟩
      refine ⟨congrArg Prod.fst (ls266 C_h), ixs (ls266 C_h) (by decide) (by decide), ?_⟩
      refine ⟨(ls256 C_h), ?_⟩
      refine Ex.mono w (Nat.le_refl _) ?_
      rintro v13 h14 ⟨rfl, s19, w⟩
      refine ⟨rfl, ?_⟩
      have C_h14 := Lay_SH s19 C_h
      try simp only [aI_wAL, fI_wAL, aL_wA, aL_wF, aI_wA_ne, aI_wF_ne, fI_wA_ne, fI_wF_ne, fI_wF_nk, aL_wAL_ne, J_sameA, J_sameF, aL_same, Nat.add_left_cancel_iff, Nat.add_eq_left, Nat.left_eq_add, not_false_eq_true, Nat.reduceEqDiff, Nat.reduceAdd, J_add, J_sub, J_mul, J_neg, J_and, J_or, J_xor, J_shl, J_shr, J_div, J_i2b, J_i2l, J_l2i, J_lcm, J_max, J_min, J_nab, J_nao, rdA, rdF, rdL, wA_fold, wF_fold, wL_fold, wC_fold]
      refine ⟨(ls256 C_h14), _, (lr256_29 C_h14), ?_⟩
      obtain ⟨k16, w⟩ := w
      refine ⟨congrArg Prod.fst (ls272 C_h14), ixs (ls272 C_h14) k16 (by decide), ?_⟩
      refine ⟨fun c17 => ?_, fun c17 => ?_⟩
      · have t18 : 0 ≤ aI h14 272 x3 := ((Jle (by decide) (rg_toInt _)).mp c17)
        replace w := w.1 t18
        exact w
      · have t18 : ¬ 0 ≤ aI h14 272 x3 := (fun e => c17 ((Jle (by decide) (rg_toInt _)).mpr e))
        replace w := w.2 t18
        exact w
-- OutwardDoorsModel.caught(I)I at 75
set_option maxRecDepth 20000 in
set_option maxHeartbeats 4000000 in
theorem r268_75 {X : Cst} {d : Nat} {x1 : Int} {x2 : Int} {x3 : Int} {x4 : Int} {x5 : Int} {h : AH} {Q : Post} (C_h : Lay h) (hd : 2 ≤ d)
  (w : (0 ≤ (aI h 266 2) ∧ (aI h 266 2) ≤ 5) ∧ (0 < aI h 266 0 ∧ aI h 266 0 ≤ 8) ∧ (-2147483648 ≤ x5 ∧ x5 < 2147483648) ∧ ((pwi (aI h 266 0) (aI h 266 2) ≤ x5 → Ex X PG d 262 0 [some (.ref 256), some (.int (J (-1))), none] [] h (fun v10 h11 => v10 = none ∧ SH h h11 ∧ (0 ≤ x3 ∧ x3 < 32768) ∧ ((0 ≤ aI h11 272 x3 → Ex X PG (d + 1) 268 29 [some (.ref 256), some (.int (J x1)), some (.int (J (ior x2 0))), some (.int (J x3)), some (.int (J (x4 + 1))), some (.int (J x5))] [] h11 Q) ∧ (¬ 0 ≤ aI h11 272 x3 → Ex X PG (d + 1) 268 29 [some (.ref 256), some (.int (J x1)), some (.int (J (ior x2 (shl 1 (iand x4 31))))), some (.int (J x3)), some (.int (J (x4 + 1))), some (.int (J x5))] [] h11 Q)))) ∧ (¬ pwi (aI h 266 0) (aI h 266 2) ≤ x5 → (0 ≤ x5 ∧ x5 < 32768) ∧ (0 ≤ x4 ∧ x4 ≤ 5) ∧ (0 ≤ x3 ∧ x3 < 32768) ∧ ((dgt (aI h 266 0) x5 x4 = dgt (aI h 266 0) x3 x4 → Ex X PG (d + 1) 268 75 [some (.ref 256), some (.int (J x1)), some (.int (J x2)), some (.int (J x3)), some (.int (J x4)), some (.int (J (x5 + 1)))] [] h Q) ∧ (¬ dgt (aI h 266 0) x5 x4 = dgt (aI h 266 0) x3 x4 → Ex X PG d 261 0 [some (.ref 256), some (.int (J x5)), some (.int (J 0))] [] h (fun v28 h29 => v28 = none ∧ SH h h29 ∧ Ex X PG (d + 1) 268 75 [some (.ref 256), some (.int (J x1)), some (.int (J x2)), some (.int (J x3)), some (.int (J x4)), some (.int (J (x5 + 1)))] [] h29 Q)))))) :
    Ex X PG (d + 1) 268 75 [some (.ref 256), some (.int (J x1)), some (.int (J x2)), some (.int (J x3)), some (.int (J x4)), some (.int (J x5))] [] h Q := by
  refine wpx_ok (cut := [29, 75]) 25 d 268 75 _ _ _ _ ?_
  show hs h 256 = (0, 11) ∧ ∃ q1, hR h 256 20 = some q1 ∧ (hs h q1).1 = 1 ∧ ix (J 2) (hs h q1).2 ∧ hs h 256 = (0, 11) ∧ Ex X PG d 258 0 [some (.ref 256), some (.int (hI h q1 (Int32.toNatClampNeg (J 2)))), none, none] [] h (fun v2 h3 => ∃ r4, v2 = some (.int r4) ∧ ((r4 ≤ (J x5) → hs h3 256 = (0, 11) ∧ Ex X PG d 262 0 [some (.ref 256), some (.int (J (-1))), none] [] h3 (fun v10 h11 => v10 = none ∧ hs h11 256 = (0, 11) ∧ ∃ q12, hR h11 256 29 = some q12 ∧ (hs h11 q12).1 = 1 ∧ ix (J x3) (hs h11 q12).2 ∧ (((J 0) ≤ (hI h11 q12 (Int32.toNatClampNeg (J x3))) → Ex X PG (d + 1) 268 29 [some (.ref 256), some (.int (J x1)), some (.int ((J x2) ||| (J 0))), some (.int (J x3)), some (.int ((J x4) + (J 1))), some (.int (J x5))] [] h11 Q) ∧ (¬ ((J 0) ≤ (hI h11 q12 (Int32.toNatClampNeg (J x3)))) → Ex X PG (d + 1) 268 29 [some (.ref 256), some (.int (J x1)), some (.int ((J x2) ||| ((J 1) <<< ((J x4) &&& J 31)))), some (.int (J x3)), some (.int ((J x4) + (J 1))), some (.int (J x5))] [] h11 Q)))) ∧ (¬ (r4 ≤ (J x5)) → hs h3 256 = (0, 11) ∧ Ex X PG d 260 0 [some (.ref 256), some (.int (J x5)), some (.int (J x4))] [] h3 (fun v17 h18 => ∃ r19, v17 = some (.int r19) ∧ hs h18 256 = (0, 11) ∧ Ex X PG d 260 0 [some (.ref 256), some (.int (J x3)), some (.int (J x4))] [] h18 (fun v22 h23 => ∃ r24, v22 = some (.int r24) ∧ ((r19 = r24 → Ex X PG (d + 1) 268 75 [some (.ref 256), some (.int (J x1)), some (.int (J x2)), some (.int (J x3)), some (.int (J x4)), some (.int ((J x5) + (J 1)))] [] h23 Q) ∧ (¬ (r19 = r24) → hs h23 256 = (0, 11) ∧ Ex X PG d 261 0 [some (.ref 256), some (.int (J x5)), some (.int (J 0))] [] h23 (fun v28 h29 => v28 = none ∧ Ex X PG (d + 1) 268 75 [some (.ref 256), some (.int (J x1)), some (.int (J x2)), some (.int (J x3)), some (.int (J x4)), some (.int ((J x5) + (J 1)))] [] h29 Q))))))))
  try simp only [aI_wAL, fI_wAL, aL_wA, aL_wF, aI_wA_ne, aI_wF_ne, fI_wA_ne, fI_wF_ne, fI_wF_nk, aL_wAL_ne, J_sameA, J_sameF, aL_same, Nat.add_left_cancel_iff, Nat.add_eq_left, Nat.left_eq_add, not_false_eq_true, Nat.reduceEqDiff, Nat.reduceAdd, J_add, J_sub, J_mul, J_neg, J_and, J_or, J_xor, J_shl, J_shr, J_div, J_i2b, J_i2l, J_l2i, J_lcm, J_max, J_min, J_nab, J_nao, rdA, rdF, rdL, wA_fold, wF_fold, wL_fold, wC_fold]
  refine ⟨(ls256 C_h), _, (lr256_20 C_h), ?_⟩
  refine ⟨congrArg Prod.fst (ls266 C_h), ixs (ls266 C_h) (by decide) (by decide), ?_⟩
  refine ⟨(ls256 C_h), ?_⟩
  obtain ⟨k5, w⟩ := w
  obtain ⟨k6, w⟩ := w
  refine m258 (h := h) (p := (aI h 266 2)) C_h (by omega) k5 k6 ?_
  refine ⟨_, rfl, ?_⟩
  try simp only [aI_wAL, fI_wAL, aL_wA, aL_wF, aI_wA_ne, aI_wF_ne, fI_wA_ne, fI_wF_ne, fI_wF_nk, aL_wAL_ne, J_sameA, J_sameF, aL_same, Nat.add_left_cancel_iff, Nat.add_eq_left, Nat.left_eq_add, not_false_eq_true, Nat.reduceEqDiff, Nat.reduceAdd, J_add, J_sub, J_mul, J_neg, J_and, J_or, J_xor, J_shl, J_shr, J_div, J_i2b, J_i2l, J_l2i, J_lcm, J_max, J_min, J_nab, J_nao, rdA, rdF, rdL, wA_fold, wF_fold, wL_fold, wC_fold]
  obtain ⟨k9, w⟩ := w
  refine ⟨fun c7 => ?_, fun c7 => ?_⟩
  · have t8 : pwi (aI h 266 0) (aI h 266 2) ≤ x5 := ((Jle (pwi_rg _ _) k9).mp c7)
    replace w := w.1 t8
    refine ⟨(ls256 C_h), ?_⟩
    refine Ex.mono w (Nat.le_refl _) ?_
    rintro v10 h11 ⟨rfl, s16, w⟩
    refine ⟨rfl, ?_⟩
    have C_h11 := Lay_SH s16 C_h
    try simp only [aI_wAL, fI_wAL, aL_wA, aL_wF, aI_wA_ne, aI_wF_ne, fI_wA_ne, fI_wF_ne, fI_wF_nk, aL_wAL_ne, J_sameA, J_sameF, aL_same, Nat.add_left_cancel_iff, Nat.add_eq_left, Nat.left_eq_add, not_false_eq_true, Nat.reduceEqDiff, Nat.reduceAdd, J_add, J_sub, J_mul, J_neg, J_and, J_or, J_xor, J_shl, J_shr, J_div, J_i2b, J_i2l, J_l2i, J_lcm, J_max, J_min, J_nab, J_nao, rdA, rdF, rdL, wA_fold, wF_fold, wL_fold, wC_fold]
    refine ⟨(ls256 C_h11), _, (lr256_29 C_h11), ?_⟩
    obtain ⟨k13, w⟩ := w
    refine ⟨congrArg Prod.fst (ls272 C_h11), ixs (ls272 C_h11) k13 (by decide), ?_⟩
    refine ⟨fun c14 => ?_, fun c14 => ?_⟩
    · have t15 : 0 ≤ aI h11 272 x3 := ((Jle (by decide) (rg_toInt _)).mp c14)
      replace w := w.1 t15
      exact w
    · have t15 : ¬ 0 ≤ aI h11 272 x3 := (fun e => c14 ((Jle (by decide) (rg_toInt _)).mpr e))
      replace w := w.2 t15
      exact w
  · have t8 : ¬ pwi (aI h 266 0) (aI h 266 2) ≤ x5 := (fun e => c7 ((Jle (pwi_rg _ _) k9).mpr e))
    replace w := w.2 t8
    refine ⟨(ls256 C_h), ?_⟩
    obtain ⟨k20, w⟩ := w
    obtain ⟨k21, w⟩ := w
    refine m260 (h := h) (c := x5) (p := x4) C_h (by omega) k20 k21 k6 ?_
    refine ⟨_, rfl, ?_⟩
    try simp only [aI_wAL, fI_wAL, aL_wA, aL_wF, aI_wA_ne, aI_wF_ne, fI_wA_ne, fI_wF_ne, fI_wF_nk, aL_wAL_ne, J_sameA, J_sameF, aL_same, Nat.add_left_cancel_iff, Nat.add_eq_left, Nat.left_eq_add, not_false_eq_true, Nat.reduceEqDiff, Nat.reduceAdd, J_add, J_sub, J_mul, J_neg, J_and, J_or, J_xor, J_shl, J_shr, J_div, J_i2b, J_i2l, J_l2i, J_lcm, J_max, J_min, J_nab, J_nao, rdA, rdF, rdL, wA_fold, wF_fold, wL_fold, wC_fold]
    refine ⟨(ls256 C_h), ?_⟩
    obtain ⟨k25, w⟩ := w
    refine m260 (h := h) (c := x3) (p := x4) C_h (by omega) k25 k21 k6 ?_
    refine ⟨_, rfl, ?_⟩
    try simp only [aI_wAL, fI_wAL, aL_wA, aL_wF, aI_wA_ne, aI_wF_ne, fI_wA_ne, fI_wF_ne, fI_wF_nk, aL_wAL_ne, J_sameA, J_sameF, aL_same, Nat.add_left_cancel_iff, Nat.add_eq_left, Nat.left_eq_add, not_false_eq_true, Nat.reduceEqDiff, Nat.reduceAdd, J_add, J_sub, J_mul, J_neg, J_and, J_or, J_xor, J_shl, J_shr, J_div, J_i2b, J_i2l, J_l2i, J_lcm, J_max, J_min, J_nab, J_nao, rdA, rdF, rdL, wA_fold, wF_fold, wL_fold, wC_fold]
    refine ⟨fun c26 => ?_, fun c26 => ?_⟩
    · have t27 : dgt (aI h 266 0) x5 x4 = dgt (aI h 266 0) x3 x4 := ((Jeq (dgt_rg _ _ _) (dgt_rg _ _ _)).mp c26)
      replace w := w.1 t27
      exact w
    · have t27 : ¬ dgt (aI h 266 0) x5 x4 = dgt (aI h 266 0) x3 x4 := (fun e => c26 ((Jeq (dgt_rg _ _ _) (dgt_rg _ _ _)).mpr e))
      replace w := w.2 t27
      refine ⟨(ls256 C_h), ?_⟩
      refine Ex.mono w (Nat.le_refl _) ?_
      rintro v28 h29 ⟨rfl, s30, w⟩
      refine ⟨rfl, ?_⟩
      have C_h29 := Lay_SH s30 C_h
      try simp only [aI_wAL, fI_wAL, aL_wA, aL_wF, aI_wA_ne, aI_wF_ne, fI_wA_ne, fI_wF_ne, fI_wF_nk, aL_wAL_ne, J_sameA, J_sameF, aL_same, Nat.add_left_cancel_iff, Nat.add_eq_left, Nat.left_eq_add, not_false_eq_true, Nat.reduceEqDiff, Nat.reduceAdd, J_add, J_sub, J_mul, J_neg, J_and, J_or, J_xor, J_shl, J_shr, J_div, J_i2b, J_i2l, J_l2i, J_lcm, J_max, J_min, J_nab, J_nao, rdA, rdF, rdL, wA_fold, wF_fold, wL_fold, wC_fold]
      exact w
theorem m268 {X : Cst} {d : Nat} {w M : Int} {S : Int → Int} {h : AH} {Q : Post} (C : Lay h) (hd : 8 ≤ d) (eS : aI h 266 = S) (W : WF M S) (hM : M ≤ 999) (g : -2147483648 ≤ w ∧ w < 2147483648)
    (k : ∀ h', Fr TR h h' → Q (some (.int (J (anCaught S w)))) h') : Ex X PG d 268 0 [some (.ref 256), some (.int (J w)), none, none, none, none] [] h Q := by
  obtain ⟨d, rfl⟩ : ∃ e, d = e + 1 := ⟨d - 1, by omega⟩
  have b := W.1
  unfold WFb at b
  have W9 : WF 999 S := W.up hM
  unfold anCaught at k
  refine r268_0 C (by omega) ?_
  rw [eS]
  refine ⟨fun c => ?_, fun c => ⟨g, fun c2 => ⟨W9, c, ?_⟩, fun c2 => ?_⟩⟩
  · rw [if_neg (fun z => c z.1)] at k; exact k h Fr.rf
  · rw [if_pos ⟨c, c2⟩] at k
    have hn8 : 0 < S 0 ∧ S 0 ≤ 8 := by omega
    have kn := nowF_K W
    have eb := enc_b c _ _ kn.1
    have pw := pw_32k c b.2.1 (m := (S 2).toNat) (by omega)
    have ks : ∀ h', Fr TR h h' → aI h' 266 = S := fun h' F => by rw [F.a 266 (fun k z => by unfold TR at z; omega)]; exact eS
    have lo : ∀ (z p : Nat) (h' : AH) (l5 : Option Value), S 2 - p = z → Fr TR h h' → Ex X PG (d + 1) 268 29 [some (.ref 256), some (.int (J w)), some (.int (J (bset p (cauP S w) : Nat))), some (.int (J (enc (S 0) (S 2).toNat (nowF S)))), some (.int (J (p : Int))), l5] [] h' Q := by
      intro z
      induction z with
      | zero =>
        intro p h' l5 e F
        refine r268_29 (F.C C) ?_
        rw [ks h' F]
        refine ⟨by omega, fun _ => ?_, fun y => absurd (by omega) y⟩
        have := k h' F
        rw [show (S 2).toNat = p by omega] at this
        exact this
      | succ z ih =>
        intro p h' l5 e F
        have bl := bset_lt (cauP S w) p
        have bp : (2 : Nat) ^ p ≤ 2 ^ 4 := Nat.pow_le_pow_right (by decide) (by omega)
        -- from the answer on
        have go : ∀ (h' : AH) (l5 : Option Value), Fr TR h h' → IsD (Edg S (nightP S) (S 2).toNat (-1)) (cG S w p) (nowF S) (aI h' 272 (enc (S 0) (S 2).toNat (nowF S))) → ((0 ≤ aI h' 272 (enc (S 0) (S 2).toNat (nowF S)) → Ex X PG (d + 1) 268 29 [some (.ref 256), some (.int (J w)), some (.int (J (ior (bset p (cauP S w) : Nat) 0))), some (.int (J (enc (S 0) (S 2).toNat (nowF S)))), some (.int (J ((p : Int) + 1))), l5] [] h' Q) ∧ (¬ 0 ≤ aI h' 272 (enc (S 0) (S 2).toNat (nowF S)) → Ex X PG (d + 1) 268 29 [some (.ref 256), some (.int (J w)), some (.int (J (ior (bset p (cauP S w) : Nat) (shl 1 (iand p 31))))), some (.int (J (enc (S 0) (S 2).toNat (nowF S)))), some (.int (J ((p : Int) + 1))), l5] [] h' Q)) := by
          intro h' l5 F D
          have nx := ih (p + 1) h' l5 (by omega) F
          refine ⟨fun c3 => ?_, fun c3 => ?_⟩
          · have np : ¬ cauP S w p := by
              rcases D with ⟨a, _⟩ | ⟨_, r, _⟩
              · omega
              · exact fun z => z _ r
            rw [← bset_no np] at nx
            rw [show (0 : Int) = ((0 : Nat) : Int) from rfl, ior_nat (by omega) (by decide), Nat.or_zero]
            exact nx
          · have np : cauP S w p := by
              rcases D with ⟨_, r⟩ | ⟨a, _⟩
              · exact r
              · omega
            rw [← bset_or np] at nx
            rw [shl_1 (by omega), show ((p : Int)).toNat = p by omega, ior_nat (by omega) (by omega)]
            exact nx
        refine r268_29 (F.C C) ?_
        rw [ks h' F]
        refine ⟨by omega, fun y => absurd y (by omega), fun _ => ⟨g, fun c3 => ?_, fun c3 => ?_⟩⟩
        · refine m257 (F.C C) (by omega) (by omega) (by rw [ks h' F]; exact hn8) (fun h2 F2 f31 f32 a2 => ⟨rfl, F2.1, ?_⟩)
          rw [ks h' F] at a2
          have F12 : Fr TR h h2 := F.tr (F2.mo fun c k z => TB2_R z)
          have lp : ∀ (y : Nat) (i : Int) (h' : AH), S 0 ^ (S 2).toNat - i = y → 0 ≤ i → Fr TR h h' → fI h' 256 32 = S 2 → BQ h' (S 0 ^ (S 2).toNat) 0 → SDx (cG S w p) (S 0) (S 2).toNat h' i → Ex X PG (d + 1) 268 75 [some (.ref 256), some (.int (J w)), some (.int (J (bset p (cauP S w) : Nat))), some (.int (J (enc (S 0) (S 2).toNat (nowF S)))), some (.int (J (p : Int))), some (.int (J i))] [] h' Q := by
            intro y
            induction y with
            | zero =>
              intro i h' y1 i0 F f2 B x
              refine r268_75 (F.C C) (by omega) ?_
              rw [ks h' F, pwi_e hn8 (by omega)]
              refine ⟨by omega, hn8, by omega, fun _ => ?_, fun y => absurd (by omega) y⟩
              have ei : i = S 0 ^ (S 2).toNat := by omega
              subst ei
              obtain ⟨sn, sd⟩ := x.end (E := Edg S (nightP S) (S 2).toNat (-1)) c B
              refine m262 (w := -1) (F.C C) (by omega) (ks h' F) W hM c (by omega) (by omega) B sn sd (by decide) (fun h10 F10 r10 => ⟨rfl, F10.1, by omega, ?_⟩)
              exact go h10 _ (F.tr (F10.mo fun c k z => TB2_R (Or.inl z))) (r10 _ kn)
            | succ y ih2 =>
              intro i h' y1 i0 F f2 B x
              have kd := dcd_K c (S 2).toNat i
              have ed := enc_dcd c (S 2).toNat i i0 (by omega)
              have dg1 : dgt (S 0) i p = dcd (S 0) (S 2).toNat i p := by
                have := dgt_enc hn8 kd (p := p) (by omega)
                rw [ed] at this; exact this
              have dg2 : dgt (S 0) (enc (S 0) (S 2).toNat (nowF S)) p = pS S p 0 := by
                rw [dgt_enc hn8 kn (p := p) (by omega)]; unfold nowF; rw [if_pos (by omega)]
              refine r268_75 (F.C C) (by omega) ?_
              rw [ks h' F, pwi_e hn8 (by omega), dg1, dg2]
              refine ⟨by omega, hn8, by omega, fun y => absurd y (by omega), fun _ => ⟨by omega, by omega, by omega, fun c4 => ?_, fun c4 => ?_⟩⟩
              · refine ih2 (i + 1) h' (by omega) (by omega) F f2 B (x.s (by omega) BX.rf ?_ B)
                have := x.2 i (Int.le_refl i) (by omega)
                exact ⟨fun z => by omega, fun z => by rcases z with z | z; exact absurd z.1 c3; exact absurd c4 z.2⟩
              · refine m261 (N := S 0 ^ (S 2).toNat) (v := 0) (F.C C) (by omega) B (by omega) (by omega) (by decide) (fun h3 B3 X3 p3 => ⟨rfl, X3.1.1, ?_⟩)
                exact ih2 (i + 1) h3 (by omega) (by omega) (F.tr (X3.1.mo fun c k z => TB2_R (Or.inl z))) (by rw [X3.1.f 256 32 (fun z => by unfold TB at z; omega)]; exact f2) B3 (x.s (by omega) X3 ⟨fun _ => Or.inr ⟨c3, c4⟩, fun _ => p3⟩ B3)
          exact lp (S 0 ^ (S 2).toNat).toNat 0 h2 (by omega) (by omega) F12 f32 (BQ_0 (by omega) f31 a2) ⟨fun x x0 x1 => by omega, fun x x0 x1 => a2 x x0 x1⟩
        · rw [shl_1 (by omega), show ((p : Int)).toNat = p by omega]
          refine m256 (F.C C) (by omega) (ks h' F) W hM c (by omega) (by omega) (by decide) (fun h2 F2 r2 => ⟨rfl, F2.1, by omega, ?_⟩)
          have D := r2 _ kn
          have cg : ∀ f, atG S ((2 ^ p : Nat) : Int) f ↔ cG S w p f := by
            intro f
            have := atG_pow (S := S) (f := f) (p := p) (by omega) (by omega)
            rw [show ((p : Int)).toNat = p by omega] at this
            rw [this]
            exact ⟨fun z => Or.inl ⟨c3, z⟩, fun z => by rcases z with z | z; exact z.2; exact absurd c3 z.1⟩
          have D2 : IsD (Edg S (nightP S) (S 2).toNat (-1)) (cG S w p) (nowF S) (aI h2 272 (enc (S 0) (S 2).toNat (nowF S))) := by
            rcases D with ⟨a, r⟩ | ⟨a, r, l⟩
            · exact Or.inl ⟨a, fun j z => r j ((RK_cong cg j _).mpr z)⟩
            · exact Or.inr ⟨a, (RK_cong cg _ _).mp r, fun j z => l j ((RK_cong cg j _).mpr z)⟩
          have := go h2 l5 (F.tr (F2.mo fun c k z => TB2_R z)) D2
          rw [shl_1 (by omega), show ((p : Int)).toNat = p by omega] at this
          exact this
    exact lo (S 2).toNat 0 h none (by omega) Fr.rf
  · rw [if_neg (fun z => c2 z.2)] at k; exact k h Fr.rf
/-- PAGE: at which room, over the first n -/
def pgF (V : Int → Int) : Nat → Int × Int
  | 0 => (-2, -2)
  | r + 1 => if V r < 0 then pgF V r else if (pgF V r).1 < 0 then ((r : Int), V r) else if V r < (pgF V r).2 then ((r : Int), V r) else pgF V r
theorem pgF_b {V : Int → Int} : ∀ n : Nat, n ≤ 8 → -2 ≤ (pgF V n).1 ∧ (pgF V n).1 < 8 := by
  intro n
  induction n with
  | zero => intro _; show (-2 : Int) ≤ -2 ∧ (-2 : Int) < 8; omega
  | succ n ih =>
    intro hn
    have := ih (by omega)
    unfold pgF
    split
    · omega
    · split
      · show -2 ≤ (n : Int) ∧ (n : Int) < 8; omega
      · split
        · show -2 ≤ (n : Int) ∧ (n : Int) < 8; omega
        · omega
theorem nowP_K {N : Int} {S : Int → Int} (W : WF N S) {r : Int} (hr : 0 ≤ r ∧ r < S 0) : Kf ((S 2).toNat + 1) (S 0) (fu (nowF S) (S 2) r) := by
  have b := W.1
  unfold WFb at b
  have kn := nowF_K W
  refine ⟨fun p p0 p1 => ?_, fun p hp => ?_⟩
  · by_cases c : p = S 2
    · subst c; rw [fu_eq]; exact hr
    · rw [fu_ne c]; exact kn.1 p p0 (by omega)
  · rw [fu_ne (by omega)]; exact kn.2 p (by omega)
theorem enc_nowP {N : Int} {S : Int → Int} (W : WF N S) (r : Int) : enc (S 0) ((S 2).toNat + 1) (fu (nowF S) (S 2) r) = enc (S 0) (S 2).toNat (nowF S) + r * S 0 ^ (S 2).toNat := by
  have b := W.1
  unfold WFb at b
  rw [enc_top, show (((S 2).toNat : Nat) : Int) = S 2 by omega, fu_eq, enc_cong _ (fu (nowF S) (S 2) r) (nowF S) (fun p p0 p1 => fu_ne (by omega))]
-- OutwardDoorsModel.page(II)I at 0
set_option maxRecDepth 20000 in
set_option maxHeartbeats 4000000 in
theorem r269_0 {X : Cst} {d : Nat} {x1 : Int} {x2 : Int} {h : AH} {Q : Post} (C_h : Lay h) (hd : 1 ≤ d)
  (w : (-2147483648 ≤ x1 ∧ x1 < 2147483648) ∧ ((¬ (0 ≤ x1 ∧ x1 < aI h 266 2) → Q (some (.int (J (-1)))) h) ∧ ((0 ≤ x1 ∧ x1 < aI h 266 2) → (-2147483648 ≤ x2 ∧ x2 < 2147483648) ∧ (((0 ≤ x2 ∧ x2 ≤ 1) → Ex X PG d 256 0 [some (.ref 256), some (.int (J (shl 1 (iand x1 31)))), some (.int (J ((aI h 266 2) + 1))), some (.int (J (-1))), none] [] h (fun v14 h15 => v14 = none ∧ SH h h15 ∧ Ex X PG (d + 1) 269 46 [some (.ref 256), some (.int (J x1)), some (.int (J x2)), some (.int (J (-2))), some (.int (J (-2))), some (.int (J 0)), none] [] h15 Q)) ∧ (¬ (0 ≤ x2 ∧ x2 ≤ 1) → Q (some (.int (J (-1)))) h))))) :
    Ex X PG (d + 1) 269 0 [some (.ref 256), some (.int (J x1)), some (.int (J x2)), none, none, none, none] [] h Q := by
  refine wpx_ok (cut := [46]) 28 d 269 0 _ _ _ _ ?_
  show hs h 256 = (0, 11) ∧ Ex X PG d 213 0 [some (.ref 256), some (.int (J x1))] [] h (fun v1 h2 => ∃ r3, v1 = some (.int r3) ∧ ((r3 = (J 0) → Q (some (.int (J (-1)))) h2) ∧ (¬ (r3 = (J 0)) → Ex X PG d 186 0 [some (.long (Int32.toInt64 (J x2))), none, some (.long (0 : Int64)), none, some (.long (1 : Int64)), none] [] h2 (fun v7 h8 => ∃ r9, v7 = some (.int r9) ∧ ((¬ r9 = (J 0) → hs h8 256 = (0, 11) ∧ ∃ q13, hR h8 256 20 = some q13 ∧ (hs h8 q13).1 = 1 ∧ ix (J 2) (hs h8 q13).2 ∧ hs h8 256 = (0, 11) ∧ Ex X PG d 256 0 [some (.ref 256), some (.int ((J 1) <<< ((J x1) &&& J 31))), some (.int ((hI h8 q13 (Int32.toNatClampNeg (J 2))) + (J 1))), some (.int (J (-1))), none] [] h8 (fun v14 h15 => v14 = none ∧ Ex X PG (d + 1) 269 46 [some (.ref 256), some (.int (J x1)), some (.int (J x2)), some (.int (J (-2))), some (.int (J (-2))), some (.int (J 0)), none] [] h15 Q)) ∧ (¬ (¬ r9 = (J 0)) → Q (some (.int (J (-1)))) h8))))))
  try simp only [aI_wAL, fI_wAL, aL_wA, aL_wF, aI_wA_ne, aI_wF_ne, fI_wA_ne, fI_wF_ne, fI_wF_nk, aL_wAL_ne, J_sameA, J_sameF, aL_same, Nat.add_left_cancel_iff, Nat.add_eq_left, Nat.left_eq_add, not_false_eq_true, Nat.reduceEqDiff, Nat.reduceAdd, J_add, J_sub, J_mul, J_neg, J_and, J_or, J_xor, J_shl, J_shr, J_div, J_i2b, J_i2l, J_l2i, J_lcm, J_max, J_min, J_nab, J_nao, rdA, rdF, rdL, wA_fold, wF_fold, wL_fold, wC_fold]
  refine ⟨(ls256 C_h), ?_⟩
  obtain ⟨k4, w⟩ := w
  refine m213 (h := h) (x := x1) C_h (by omega) k4 ?_
  refine ⟨_, rfl, ?_⟩
  try simp only [aI_wAL, fI_wAL, aL_wA, aL_wF, aI_wA_ne, aI_wF_ne, fI_wA_ne, fI_wF_ne, fI_wF_nk, aL_wAL_ne, J_sameA, J_sameF, aL_same, Nat.add_left_cancel_iff, Nat.add_eq_left, Nat.left_eq_add, not_false_eq_true, Nat.reduceEqDiff, Nat.reduceAdd, J_add, J_sub, J_mul, J_neg, J_and, J_or, J_xor, J_shl, J_shr, J_div, J_i2b, J_i2l, J_l2i, J_lcm, J_max, J_min, J_nab, J_nao, rdA, rdF, rdL, wA_fold, wF_fold, wL_fold, wC_fold]
  refine ⟨fun c5 => ?_, fun c5 => ?_⟩
  · have t6 : ¬ (0 ≤ x1 ∧ x1 < aI h 266 2) := ((bI0 _).mp c5)
    replace w := w.1 t6
    exact w
  · have t6 : (0 ≤ x1 ∧ x1 < aI h 266 2) := (Classical.byContradiction fun n => c5 ((bI0 _).mpr n))
    replace w := w.2 t6
    obtain ⟨k10, w⟩ := w
    refine m186 (h := h) (v := x2) (lo := 0) (hi := 1) C_h (by omega) k10 (by decide) (by decide) ?_
    refine ⟨_, rfl, ?_⟩
    try simp only [aI_wAL, fI_wAL, aL_wA, aL_wF, aI_wA_ne, aI_wF_ne, fI_wA_ne, fI_wF_ne, fI_wF_nk, aL_wAL_ne, J_sameA, J_sameF, aL_same, Nat.add_left_cancel_iff, Nat.add_eq_left, Nat.left_eq_add, not_false_eq_true, Nat.reduceEqDiff, Nat.reduceAdd, J_add, J_sub, J_mul, J_neg, J_and, J_or, J_xor, J_shl, J_shr, J_div, J_i2b, J_i2l, J_l2i, J_lcm, J_max, J_min, J_nab, J_nao, rdA, rdF, rdL, wA_fold, wF_fold, wL_fold, wC_fold]
    refine ⟨fun c11 => ?_, fun c11 => ?_⟩
    · have t12 : (0 ≤ x2 ∧ x2 ≤ 1) := (Classical.byContradiction fun n => c11 ((bI0 _).mpr n))
      replace w := w.1 t12
      refine ⟨(ls256 C_h), _, (lr256_20 C_h), ?_⟩
      refine ⟨congrArg Prod.fst (ls266 C_h), ixs (ls266 C_h) (by decide) (by decide), ?_⟩
      refine ⟨(ls256 C_h), ?_⟩
      refine Ex.mono w (Nat.le_refl _) ?_
      rintro v14 h15 ⟨rfl, s16, w⟩
      refine ⟨rfl, ?_⟩
      have C_h15 := Lay_SH s16 C_h
      try simp only [aI_wAL, fI_wAL, aL_wA, aL_wF, aI_wA_ne, aI_wF_ne, fI_wA_ne, fI_wF_ne, fI_wF_nk, aL_wAL_ne, J_sameA, J_sameF, aL_same, Nat.add_left_cancel_iff, Nat.add_eq_left, Nat.left_eq_add, not_false_eq_true, Nat.reduceEqDiff, Nat.reduceAdd, J_add, J_sub, J_mul, J_neg, J_and, J_or, J_xor, J_shl, J_shr, J_div, J_i2b, J_i2l, J_l2i, J_lcm, J_max, J_min, J_nab, J_nao, rdA, rdF, rdL, wA_fold, wF_fold, wL_fold, wC_fold]
      exact w
    · have t12 : ¬ (0 ≤ x2 ∧ x2 ≤ 1) := ((bI0 _).mp (Classical.byContradiction fun n => c11 n))
      replace w := w.2 t12
      exact w
-- OutwardDoorsModel.page(II)I at 46
set_option maxRecDepth 20000 in
set_option maxHeartbeats 4000000 in
theorem r269_46 {X : Cst} {d : Nat} {x1 : Int} {x2 : Int} {x3 : Int} {x4 : Int} {x5 : Int} {l6 : Option Value} {h : AH} {Q : Post} (C_h : Lay h) (hd : 2 ≤ d)
  (w : (-2147483648 ≤ x5 ∧ x5 < 2147483648) ∧ ((aI h 266 0 ≤ x5 → (-2147483648 ≤ x2 ∧ x2 < 2147483648) ∧ ((¬ x2 = 0 → Q (some (.int (J x4))) h) ∧ (x2 = 0 → Q (some (.int (J x3))) h))) ∧ (¬ aI h 266 0 ≤ x5 → (WF 999 (aI h 266)) ∧ (0 < aI h 266 0) ∧ (0 ≤ (aI h 266 2) ∧ (aI h 266 2) ≤ 5) ∧ (0 < aI h 266 0 ∧ aI h 266 0 ≤ 8) ∧ (0 ≤ (enc (aI h 266 0) (aI h 266 2).toNat (nowF (aI h 266))) + (x5 * (pwi (aI h 266 0) (aI h 266 2))) ∧ (enc (aI h 266 0) (aI h 266 2).toNat (nowF (aI h 266))) + (x5 * (pwi (aI h 266 0) (aI h 266 2))) < 32768) ∧ ((aI h 272 ((enc (aI h 266 0) (aI h 266 2).toNat (nowF (aI h 266))) + (x5 * (pwi (aI h 266 0) (aI h 266 2)))) < 0 → Ex X PG (d + 1) 269 46 [some (.ref 256), some (.int (J x1)), some (.int (J x2)), some (.int (J x3)), some (.int (J x4)), some (.int (J (x5 + 1))), some (.int (J (aI h 272 ((enc (aI h 266 0) (aI h 266 2).toNat (nowF (aI h 266))) + (x5 * (pwi (aI h 266 0) (aI h 266 2)))))))] [] h Q) ∧ (¬ aI h 272 ((enc (aI h 266 0) (aI h 266 2).toNat (nowF (aI h 266))) + (x5 * (pwi (aI h 266 0) (aI h 266 2)))) < 0 → (-2147483648 ≤ x3 ∧ x3 < 2147483648) ∧ ((x3 < 0 → Ex X PG (d + 1) 269 46 [some (.ref 256), some (.int (J x1)), some (.int (J x2)), some (.int (J x5)), some (.int (J (aI h 272 ((enc (aI h 266 0) (aI h 266 2).toNat (nowF (aI h 266))) + (x5 * (pwi (aI h 266 0) (aI h 266 2))))))), some (.int (J (x5 + 1))), some (.int (J (aI h 272 ((enc (aI h 266 0) (aI h 266 2).toNat (nowF (aI h 266))) + (x5 * (pwi (aI h 266 0) (aI h 266 2)))))))] [] h Q) ∧ (¬ x3 < 0 → (-2147483648 ≤ x4 ∧ x4 < 2147483648) ∧ ((aI h 272 ((enc (aI h 266 0) (aI h 266 2).toNat (nowF (aI h 266))) + (x5 * (pwi (aI h 266 0) (aI h 266 2)))) < x4 → Ex X PG (d + 1) 269 46 [some (.ref 256), some (.int (J x1)), some (.int (J x2)), some (.int (J x5)), some (.int (J (aI h 272 ((enc (aI h 266 0) (aI h 266 2).toNat (nowF (aI h 266))) + (x5 * (pwi (aI h 266 0) (aI h 266 2))))))), some (.int (J (x5 + 1))), some (.int (J (aI h 272 ((enc (aI h 266 0) (aI h 266 2).toNat (nowF (aI h 266))) + (x5 * (pwi (aI h 266 0) (aI h 266 2)))))))] [] h Q) ∧ (¬ aI h 272 ((enc (aI h 266 0) (aI h 266 2).toNat (nowF (aI h 266))) + (x5 * (pwi (aI h 266 0) (aI h 266 2)))) < x4 → Ex X PG (d + 1) 269 46 [some (.ref 256), some (.int (J x1)), some (.int (J x2)), some (.int (J x3)), some (.int (J x4)), some (.int (J (x5 + 1))), some (.int (J (aI h 272 ((enc (aI h 266 0) (aI h 266 2).toNat (nowF (aI h 266))) + (x5 * (pwi (aI h 266 0) (aI h 266 2)))))))] [] h Q))))))))) :
    Ex X PG (d + 1) 269 46 [some (.ref 256), some (.int (J x1)), some (.int (J x2)), some (.int (J x3)), some (.int (J x4)), some (.int (J x5)), l6] [] h Q := by
  refine wpx_ok (cut := [46]) 34 d 269 46 _ _ _ _ ?_
  show hs h 256 = (0, 11) ∧ ∃ q1, hR h 256 20 = some q1 ∧ (hs h q1).1 = 1 ∧ ix (J 0) (hs h q1).2 ∧ (((hI h q1 (Int32.toNatClampNeg (J 0))) ≤ (J x5) → ((¬ (J x2) = (J 0) → Q (some (.int (J x4))) h) ∧ (¬ (¬ (J x2) = (J 0)) → Q (some (.int (J x3))) h))) ∧ (¬ ((hI h q1 (Int32.toNatClampNeg (J 0))) ≤ (J x5)) → hs h 256 = (0, 11) ∧ ∃ q8, hR h 256 29 = some q8 ∧ hs h 256 = (0, 11) ∧ Ex X PG d 265 0 [some (.ref 256), none, none] [] h (fun v9 h10 => ∃ r11, v9 = some (.int r11) ∧ hs h10 256 = (0, 11) ∧ ∃ q14, hR h10 256 20 = some q14 ∧ (hs h10 q14).1 = 1 ∧ ix (J 2) (hs h10 q14).2 ∧ hs h10 256 = (0, 11) ∧ Ex X PG d 258 0 [some (.ref 256), some (.int (hI h10 q14 (Int32.toNatClampNeg (J 2)))), none, none] [] h10 (fun v15 h16 => ∃ r17, v15 = some (.int r17) ∧ (hs h16 q8).1 = 1 ∧ ix (r11 + ((J x5) * r17)) (hs h16 q8).2 ∧ (((hI h16 q8 (Int32.toNatClampNeg (r11 + ((J x5) * r17)))) < (J 0) → Ex X PG (d + 1) 269 46 [some (.ref 256), some (.int (J x1)), some (.int (J x2)), some (.int (J x3)), some (.int (J x4)), some (.int ((J x5) + (J 1))), some (.int (hI h16 q8 (Int32.toNatClampNeg (r11 + ((J x5) * r17)))))] [] h16 Q) ∧ (¬ ((hI h16 q8 (Int32.toNatClampNeg (r11 + ((J x5) * r17)))) < (J 0)) → (((J x3) < (J 0) → Ex X PG (d + 1) 269 46 [some (.ref 256), some (.int (J x1)), some (.int (J x2)), some (.int (J x5)), some (.int (hI h16 q8 (Int32.toNatClampNeg (r11 + ((J x5) * r17))))), some (.int ((J x5) + (J 1))), some (.int (hI h16 q8 (Int32.toNatClampNeg (r11 + ((J x5) * r17)))))] [] h16 Q) ∧ (¬ ((J x3) < (J 0)) → (((hI h16 q8 (Int32.toNatClampNeg (r11 + ((J x5) * r17)))) < (J x4) → Ex X PG (d + 1) 269 46 [some (.ref 256), some (.int (J x1)), some (.int (J x2)), some (.int (J x5)), some (.int (hI h16 q8 (Int32.toNatClampNeg (r11 + ((J x5) * r17))))), some (.int ((J x5) + (J 1))), some (.int (hI h16 q8 (Int32.toNatClampNeg (r11 + ((J x5) * r17)))))] [] h16 Q) ∧ (¬ ((hI h16 q8 (Int32.toNatClampNeg (r11 + ((J x5) * r17)))) < (J x4)) → Ex X PG (d + 1) 269 46 [some (.ref 256), some (.int (J x1)), some (.int (J x2)), some (.int (J x3)), some (.int (J x4)), some (.int ((J x5) + (J 1))), some (.int (hI h16 q8 (Int32.toNatClampNeg (r11 + ((J x5) * r17)))))] [] h16 Q))))))))))
  try simp only [aI_wAL, fI_wAL, aL_wA, aL_wF, aI_wA_ne, aI_wF_ne, fI_wA_ne, fI_wF_ne, fI_wF_nk, aL_wAL_ne, J_sameA, J_sameF, aL_same, Nat.add_left_cancel_iff, Nat.add_eq_left, Nat.left_eq_add, not_false_eq_true, Nat.reduceEqDiff, Nat.reduceAdd, J_add, J_sub, J_mul, J_neg, J_and, J_or, J_xor, J_shl, J_shr, J_div, J_i2b, J_i2l, J_l2i, J_lcm, J_max, J_min, J_nab, J_nao, rdA, rdF, rdL, wA_fold, wF_fold, wL_fold, wC_fold]
  refine ⟨(ls256 C_h), _, (lr256_20 C_h), ?_⟩
  refine ⟨congrArg Prod.fst (ls266 C_h), ixs (ls266 C_h) (by decide) (by decide), ?_⟩
  obtain ⟨k4, w⟩ := w
  refine ⟨fun c2 => ?_, fun c2 => ?_⟩
  · have t3 : aI h 266 0 ≤ x5 := ((Jle (rg_toInt _) k4).mp c2)
    replace w := w.1 t3
    obtain ⟨k7, w⟩ := w
    refine ⟨fun c5 => ?_, fun c5 => ?_⟩
    · have t6 : ¬ x2 = 0 := (fun e => c5 ((Jeq k7 (by decide)).mpr e))
      replace w := w.1 t6
      exact w
    · have t6 : x2 = 0 := ((Jeq k7 (by decide)).mp (Classical.byContradiction c5))
      replace w := w.2 t6
      exact w
  · have t3 : ¬ aI h 266 0 ≤ x5 := (fun e => c2 ((Jle (rg_toInt _) k4).mpr e))
    replace w := w.2 t3
    refine ⟨(ls256 C_h), _, (lr256_29 C_h), ?_⟩
    refine ⟨(ls256 C_h), ?_⟩
    obtain ⟨k12, w⟩ := w
    obtain ⟨k13, w⟩ := w
    refine m265 (h := h)  C_h (by omega) k12 k13 ?_
    refine ⟨_, rfl, ?_⟩
    try simp only [aI_wAL, fI_wAL, aL_wA, aL_wF, aI_wA_ne, aI_wF_ne, fI_wA_ne, fI_wF_ne, fI_wF_nk, aL_wAL_ne, J_sameA, J_sameF, aL_same, Nat.add_left_cancel_iff, Nat.add_eq_left, Nat.left_eq_add, not_false_eq_true, Nat.reduceEqDiff, Nat.reduceAdd, J_add, J_sub, J_mul, J_neg, J_and, J_or, J_xor, J_shl, J_shr, J_div, J_i2b, J_i2l, J_l2i, J_lcm, J_max, J_min, J_nab, J_nao, rdA, rdF, rdL, wA_fold, wF_fold, wL_fold, wC_fold]
    refine ⟨(ls256 C_h), _, (lr256_20 C_h), ?_⟩
    refine ⟨congrArg Prod.fst (ls266 C_h), ixs (ls266 C_h) (by decide) (by decide), ?_⟩
    refine ⟨(ls256 C_h), ?_⟩
    obtain ⟨k18, w⟩ := w
    obtain ⟨k19, w⟩ := w
    refine m258 (h := h) (p := (aI h 266 2)) C_h (by omega) k18 k19 ?_
    refine ⟨_, rfl, ?_⟩
    try simp only [aI_wAL, fI_wAL, aL_wA, aL_wF, aI_wA_ne, aI_wF_ne, fI_wA_ne, fI_wF_ne, fI_wF_nk, aL_wAL_ne, J_sameA, J_sameF, aL_same, Nat.add_left_cancel_iff, Nat.add_eq_left, Nat.left_eq_add, not_false_eq_true, Nat.reduceEqDiff, Nat.reduceAdd, J_add, J_sub, J_mul, J_neg, J_and, J_or, J_xor, J_shl, J_shr, J_div, J_i2b, J_i2l, J_l2i, J_lcm, J_max, J_min, J_nab, J_nao, rdA, rdF, rdL, wA_fold, wF_fold, wL_fold, wC_fold]
    obtain ⟨k20, w⟩ := w
    refine ⟨congrArg Prod.fst (ls272 C_h), ixs (ls272 C_h) k20 (by decide), ?_⟩
    refine ⟨fun c21 => ?_, fun c21 => ?_⟩
    · have t22 : aI h 272 ((enc (aI h 266 0) (aI h 266 2).toNat (nowF (aI h 266))) + (x5 * (pwi (aI h 266 0) (aI h 266 2)))) < 0 := ((Jlt (rg_toInt _) (by decide)).mp c21)
      replace w := w.1 t22
      exact w
    · have t22 : ¬ aI h 272 ((enc (aI h 266 0) (aI h 266 2).toNat (nowF (aI h 266))) + (x5 * (pwi (aI h 266 0) (aI h 266 2)))) < 0 := (fun e => c21 ((Jlt (rg_toInt _) (by decide)).mpr e))
      replace w := w.2 t22
      obtain ⟨k25, w⟩ := w
      refine ⟨fun c23 => ?_, fun c23 => ?_⟩
      · have t24 : x3 < 0 := ((Jlt k25 (by decide)).mp c23)
        replace w := w.1 t24
        exact w
      · have t24 : ¬ x3 < 0 := (fun e => c23 ((Jlt k25 (by decide)).mpr e))
        replace w := w.2 t24
        obtain ⟨k28, w⟩ := w
        refine ⟨fun c26 => ?_, fun c26 => ?_⟩
        · have t27 : aI h 272 ((enc (aI h 266 0) (aI h 266 2).toNat (nowF (aI h 266))) + (x5 * (pwi (aI h 266 0) (aI h 266 2)))) < x4 := ((Jlt (rg_toInt _) k28).mp c26)
          replace w := w.1 t27
          exact w
        · have t27 : ¬ aI h 272 ((enc (aI h 266 0) (aI h 266 2).toNat (nowF (aI h 266))) + (x5 * (pwi (aI h 266 0) (aI h 266 2)))) < x4 := (fun e => c26 ((Jlt (rg_toInt _) k28).mpr e))
          replace w := w.2 t27
          exact w
theorem m269 {X : Cst} {d : Nat} {p w M : Int} {S : Int → Int} {h : AH} {Q : Post} (C : Lay h) (hd : 8 ≤ d) (eS : aI h 266 = S) (W : WF M S) (hM : M ≤ 999) (g1 : -2147483648 ≤ p ∧ p < 2147483648) (g2 : -2147483648 ≤ w ∧ w < 2147483648)
    (k0 : ¬ ((0 ≤ p ∧ p < S 2) ∧ (0 ≤ w ∧ w ≤ 1)) → Q (some (.int (J (-1)))) h)
    (k : ((0 ≤ p ∧ p < S 2) ∧ (0 ≤ w ∧ w ≤ 1)) → ∀ h' V, Fr TR h h' → (∀ r, 0 ≤ r → r < S 0 → IsD (Edg S (nightP S) ((S 2).toNat + 1) (-1)) (fun f => f p = pS S p 1) (fu (nowF S) (S 2) r) (V r)) → Q (some (.int (J (if w = 0 then (pgF V (S 0).toNat).1 else (pgF V (S 0).toNat).2)))) h') : Ex X PG d 269 0 [some (.ref 256), some (.int (J p)), some (.int (J w)), none, none, none, none] [] h Q := by
  obtain ⟨d, rfl⟩ : ∃ e, d = e + 1 := ⟨d - 1, by omega⟩
  have b := W.1
  unfold WFb at b
  have W9 : WF 999 S := W.up hM
  refine r269_0 C (by omega) ?_
  rw [eS]
  refine ⟨g1, fun c => k0 (fun z => c z.1), fun c => ⟨g2, fun c2 => ?_, fun c2 => k0 (fun z => c2 z.2)⟩⟩
  have hn : 0 < S 0 := by have := W.2.1 p c.1 c.2; omega
  have hn8 : 0 < S 0 ∧ S 0 ≤ 8 := by omega
  rw [shl_1 (by omega)]
  have b4 : (2 : Nat) ^ p.toNat ≤ 2 ^ 4 := Nat.pow_le_pow_right (by decide) (by omega)
  have s0 : (0 : Int) ≤ ((2 ^ p.toNat : Nat) : Int) := Int.natCast_nonneg _
  have s1 : ((2 ^ p.toNat : Nat) : Int) ≤ ((2 ^ 4 : Nat) : Int) := Int.ofNat_le.mpr b4
  refine m256 C (by omega) eS W hM hn (by omega) ⟨s0, Int.lt_of_le_of_lt s1 (by decide)⟩ (by decide) (fun h15 F15 r15 => ⟨rfl, F15.1, ?_⟩)
  rw [show (S 2 + 1).toNat = (S 2).toNat + 1 by omega] at r15
  have e6 : aI h15 266 = S := by rw [F15.a 266 (fun k z => by unfold TB2 TB at z; omega)]; exact eS
  have cg : ∀ f, atG S ((2 ^ p.toNat : Nat) : Int) f ↔ f p = pS S p 1 := fun f => atG_pow (by omega) c
  have D : ∀ r, 0 ≤ r → r < S 0 → IsD (Edg S (nightP S) ((S 2).toNat + 1) (-1)) (fun f => f p = pS S p 1) (fu (nowF S) (S 2) r) (aI h15 272 (enc (S 0) (S 2).toNat (nowF S) + r * S 0 ^ (S 2).toNat)) := by
    intro r r0 r1
    have D := r15 _ (nowP_K W ⟨r0, r1⟩)
    rw [enc_nowP W] at D
    rcases D with ⟨a, r⟩ | ⟨a, r, l⟩
    · exact Or.inl ⟨a, fun j z => r j ((RK_cong cg j _).mpr z)⟩
    · exact Or.inr ⟨a, (RK_cong cg _ _).mp r, fun j z => l j ((RK_cong cg j _).mpr z)⟩
  have kk := k ⟨c, c2⟩ h15 (fun r => aI h15 272 (enc (S 0) (S 2).toNat (nowF S) + r * S 0 ^ (S 2).toNat)) (F15.mo fun c k z => TB2_R z) D
  have lp : ∀ (z r : Nat) (t : Int × Int) (l6 : Option Value), S 0 = z + r → t = pgF (fun r => aI h15 272 (enc (S 0) (S 2).toNat (nowF S) + r * S 0 ^ (S 2).toNat)) r → -2147483648 ≤ t.2 ∧ t.2 < 2147483648 → Ex X PG (d + 1) 269 46 [some (.ref 256), some (.int (J p)), some (.int (J w)), some (.int (J t.1)), some (.int (J t.2)), some (.int (J (r : Int))), l6] [] h15 Q := by
    intro z
    induction z with
    | zero =>
      intro r t l6 e1 e2 tr
      refine r269_46 (F15.C C) (by omega) ?_
      rw [e6]
      refine ⟨by omega, fun _ => ⟨g2, fun c4 => ?_, fun c4 => ?_⟩, fun y => absurd (by omega) y⟩
      all_goals rw [show (S 0).toNat = r by omega, ← e2] at kk
      · rw [if_neg c4] at kk; exact kk
      · rw [if_pos c4] at kk; exact kk
    | succ z ih =>
      intro r t l6 e1 e2 tr
      have tb := pgF_b (V := fun r => aI h15 272 (enc (S 0) (S 2).toNat (nowF S) + r * S 0 ^ (S 2).toNat)) r (by omega)
      rw [← e2] at tb
      have eb := enc_b hn _ _ (nowP_K W (r := r) (by omega)).1
      rw [enc_nowP W] at eb
      have pw := pw_32k hn8.1 hn8.2 (m := (S 2).toNat + 1) (by omega)
      have vr := aI_rg h15 272 (enc (S 0) (S 2).toNat (nowF S) + (r : Int) * S 0 ^ (S 2).toNat)
      refine r269_46 (F15.C C) (by omega) ?_
      rw [e6, pwi_e hn8 (by omega)]
      have un : pgF (fun r => aI h15 272 (enc (S 0) (S 2).toNat (nowF S) + r * S 0 ^ (S 2).toNat)) (r + 1) = if aI h15 272 (enc (S 0) (S 2).toNat (nowF S) + (r : Int) * S 0 ^ (S 2).toNat) < 0 then pgF (fun r => aI h15 272 (enc (S 0) (S 2).toNat (nowF S) + r * S 0 ^ (S 2).toNat)) r else if (pgF (fun r => aI h15 272 (enc (S 0) (S 2).toNat (nowF S) + r * S 0 ^ (S 2).toNat)) r).1 < 0 then ((r : Int), aI h15 272 (enc (S 0) (S 2).toNat (nowF S) + (r : Int) * S 0 ^ (S 2).toNat)) else if aI h15 272 (enc (S 0) (S 2).toNat (nowF S) + (r : Int) * S 0 ^ (S 2).toNat) < (pgF (fun r => aI h15 272 (enc (S 0) (S 2).toNat (nowF S) + r * S 0 ^ (S 2).toNat)) r).2 then ((r : Int), aI h15 272 (enc (S 0) (S 2).toNat (nowF S) + (r : Int) * S 0 ^ (S 2).toNat)) else pgF (fun r => aI h15 272 (enc (S 0) (S 2).toNat (nowF S) + r * S 0 ^ (S 2).toNat)) r := rfl
      rw [← e2] at un
      refine ⟨by omega, fun y => absurd y (by omega), fun _ => ⟨W9, hn, by omega, hn8, by omega, fun c4 => ?_, fun c4 => ⟨by omega, fun c5 => ?_, fun c5 => ⟨tr, fun c6 => ?_, fun c6 => ?_⟩⟩⟩⟩
      · rw [if_pos c4] at un; exact ih (r + 1) t _ (by omega) un.symm tr
      · rw [if_neg c4, if_pos c5] at un; exact ih (r + 1) (_, _) _ (by omega) un.symm vr
      · rw [if_neg c4, if_neg c5, if_pos c6] at un; exact ih (r + 1) (_, _) _ (by omega) un.symm vr
      · rw [if_neg c4, if_neg c5, if_neg c6] at un; exact ih (r + 1) t _ (by omega) un.symm tr
  exact lp (S 0).toNat 0 (-2, -2) none (by omega) rfl (by decide)
/-- the order of passings -/
def lab (p d q : Int) : Int := (p * 16 + d) * 8 + q
/-- the first of the passings by which v - 1 are left -/
def Fst (S : Int → Int) (t : Prop) (m : Nat) (D : (Int → Int) → Int → Prop) (v : Int) (f : Int → Int) (p d q : Int) (g : Int → Int) : Prop :=
  Lbl S t m (-1) f p d q g ∧ D g (v - 1) ∧ ∀ p' d' q' g', Lbl S t m (-1) f p' d' q' g' → D g' (v - 1) → lab p d q ≤ lab p' d' q'
-- OutwardDoorsModel.nextCode(I)I at 0
set_option maxRecDepth 20000 in
set_option maxHeartbeats 4000000 in
theorem r267_0 {X : Cst} {d : Nat} {x1 : Int} {h : AH} {Q : Post} (C_h : Lay h)
  (w : Ex X PG (d + 1) 267 2 [some (.ref 256), some (.int (J x1)), some (.int (J 0)), none, none, none, none] [] h Q) :
    Ex X PG (d + 1) 267 0 [some (.ref 256), some (.int (J x1)), none, none, none, none, none] [] h Q := by
  refine wpx_ok (cut := [2, 14, 65]) 2 d 267 0 _ _ _ _ ?_
  show Ex X PG (d + 1) 267 2 [some (.ref 256), some (.int (J x1)), some (.int (J 0)), none, none, none, none] [] h Q
  try simp only [aI_wAL, fI_wAL, aL_wA, aL_wF, aI_wA_ne, aI_wF_ne, fI_wA_ne, fI_wF_ne, fI_wF_nk, aL_wAL_ne, J_sameA, J_sameF, aL_same, Nat.add_left_cancel_iff, Nat.add_eq_left, Nat.left_eq_add, not_false_eq_true, Nat.reduceEqDiff, Nat.reduceAdd, J_add, J_sub, J_mul, J_neg, J_and, J_or, J_xor, J_shl, J_shr, J_div, J_i2b, J_i2l, J_l2i, J_lcm, J_max, J_min, J_nab, J_nao, rdA, rdF, rdL, wA_fold, wF_fold, wL_fold, wC_fold]
  exact w
-- OutwardDoorsModel.nextCode(I)I at 2
set_option maxRecDepth 20000 in
set_option maxHeartbeats 4000000 in
theorem r267_2 {X : Cst} {d : Nat} {x1 : Int} {x2 : Int} {l3 : Option Value} {l4 : Option Value} {l5 : Option Value} {l6 : Option Value} {h : AH} {Q : Post} (C_h : Lay h)
  (w : (-2147483648 ≤ x2 ∧ x2 < 2147483648) ∧ ((aI h 266 2 ≤ x2 → Q (some (.int (J (-1)))) h) ∧ (¬ aI h 266 2 ≤ x2 → Ex X PG (d + 1) 267 14 [some (.ref 256), some (.int (J x1)), some (.int (J x2)), some (.int (J 0)), l4, l5, l6] [] h Q))) :
    Ex X PG (d + 1) 267 2 [some (.ref 256), some (.int (J x1)), some (.int (J x2)), l3, l4, l5, l6] [] h Q := by
  refine wpx_ok (cut := [2, 14, 65]) 8 d 267 2 _ _ _ _ ?_
  show hs h 256 = (0, 11) ∧ ∃ q1, hR h 256 20 = some q1 ∧ (hs h q1).1 = 1 ∧ ix (J 2) (hs h q1).2 ∧ (((hI h q1 (Int32.toNatClampNeg (J 2))) ≤ (J x2) → Q (some (.int (J (-1)))) h) ∧ (¬ ((hI h q1 (Int32.toNatClampNeg (J 2))) ≤ (J x2)) → Ex X PG (d + 1) 267 14 [some (.ref 256), some (.int (J x1)), some (.int (J x2)), some (.int (J 0)), l4, l5, l6] [] h Q))
  try simp only [aI_wAL, fI_wAL, aL_wA, aL_wF, aI_wA_ne, aI_wF_ne, fI_wA_ne, fI_wF_ne, fI_wF_nk, aL_wAL_ne, J_sameA, J_sameF, aL_same, Nat.add_left_cancel_iff, Nat.add_eq_left, Nat.left_eq_add, not_false_eq_true, Nat.reduceEqDiff, Nat.reduceAdd, J_add, J_sub, J_mul, J_neg, J_and, J_or, J_xor, J_shl, J_shr, J_div, J_i2b, J_i2l, J_l2i, J_lcm, J_max, J_min, J_nab, J_nao, rdA, rdF, rdL, wA_fold, wF_fold, wL_fold, wC_fold]
  refine ⟨(ls256 C_h), _, (lr256_20 C_h), ?_⟩
  refine ⟨congrArg Prod.fst (ls266 C_h), ixs (ls266 C_h) (by decide) (by decide), ?_⟩
  obtain ⟨k4, w⟩ := w
  refine ⟨fun c2 => ?_, fun c2 => ?_⟩
  · have t3 : aI h 266 2 ≤ x2 := ((Jle (rg_toInt _) k4).mp c2)
    replace w := w.1 t3
    exact w
  · have t3 : ¬ aI h 266 2 ≤ x2 := (fun e => c2 ((Jle (rg_toInt _) k4).mpr e))
    replace w := w.2 t3
    exact w
-- OutwardDoorsModel.nextCode(I)I at 14
set_option maxRecDepth 20000 in
set_option maxHeartbeats 4000000 in
theorem r267_14 {X : Cst} {d : Nat} {x1 : Int} {x2 : Int} {x3 : Int} {l4 : Option Value} {l5 : Option Value} {l6 : Option Value} {h : AH} {Q : Post} (C_h : Lay h) (hd : 3 ≤ d)
  (w : (-2147483648 ≤ x3 ∧ x3 < 2147483648) ∧ ((aI h 266 1 ≤ x3 → Ex X PG (d + 1) 267 2 [some (.ref 256), some (.int (J x1)), some (.int (J (x2 + 1))), some (.int (J x3)), l4, l5, l6] [] h Q) ∧ (¬ aI h 266 1 ≤ x3 → (WF 999 (aI h 266)) ∧ (0 ≤ x3 ∧ x3 < aI h 266 1) ∧ ((¬ (opn (aI h 266) (nightP (aI h 266)) x3) → Ex X PG (d + 1) 267 14 [some (.ref 256), some (.int (J x1)), some (.int (J x2)), some (.int (J (x3 + 1))), l4, l5, l6] [] h Q) ∧ ((opn (aI h 266) (nightP (aI h 266)) x3) → (0 ≤ x1 ∧ x1 < 32768) ∧ (0 ≤ x2 ∧ x2 ≤ 5) ∧ (0 < aI h 266 0 ∧ aI h 266 0 ≤ 8) ∧ (0 ≤ x3 ∧ x3 < 14) ∧ ((dgt (aI h 266 0) x1 x2 = nr (aI h 266) x3 → Ex X PG (d + 1) 267 65 [some (.ref 256), some (.int (J x1)), some (.int (J x2)), some (.int (J x3)), some (.int (J (mvd (aI h 266 0) x1 x2 (fr (aI h 266) x3)))), some (.int (J (-1))), l6] [] h Q) ∧ (¬ dgt (aI h 266 0) x1 x2 = nr (aI h 266) x3 → Ex X PG (d + 1) 267 14 [some (.ref 256), some (.int (J x1)), some (.int (J x2)), some (.int (J (x3 + 1))), l4, l5, l6] [] h Q))))))) :
    Ex X PG (d + 1) 267 14 [some (.ref 256), some (.int (J x1)), some (.int (J x2)), some (.int (J x3)), l4, l5, l6] [] h Q := by
  refine wpx_ok (cut := [2, 14, 65]) 28 d 267 14 _ _ _ _ ?_
  show hs h 256 = (0, 11) ∧ ∃ q1, hR h 256 20 = some q1 ∧ (hs h q1).1 = 1 ∧ ix (J 1) (hs h q1).2 ∧ (((hI h q1 (Int32.toNatClampNeg (J 1))) ≤ (J x3) → Ex X PG (d + 1) 267 2 [some (.ref 256), some (.int (J x1)), some (.int ((J x2) + (J 1))), some (.int (J x3)), l4, l5, l6] [] h Q) ∧ (¬ ((hI h q1 (Int32.toNatClampNeg (J 1))) ≤ (J x3)) → hs h 256 = (0, 11) ∧ Ex X PG d 217 0 [some (.ref 256), some (.int (J x3))] [] h (fun v5 h6 => ∃ r7, v5 = some (.int r7) ∧ ((r7 = (J 0) → Ex X PG (d + 1) 267 14 [some (.ref 256), some (.int (J x1)), some (.int (J x2)), some (.int ((J x3) + (J 1))), l4, l5, l6] [] h6 Q) ∧ (¬ (r7 = (J 0)) → hs h6 256 = (0, 11) ∧ Ex X PG d 260 0 [some (.ref 256), some (.int (J x1)), some (.int (J x2))] [] h6 (fun v12 h13 => ∃ r14, v12 = some (.int r14) ∧ hs h13 256 = (0, 11) ∧ Ex X PG d 218 0 [some (.ref 256), some (.int (J x3))] [] h13 (fun v18 h19 => ∃ r20, v18 = some (.int r20) ∧ ((r14 = r20 → hs h19 256 = (0, 11) ∧ Ex X PG d 219 0 [some (.ref 256), some (.int (J x3))] [] h19 (fun v24 h25 => ∃ r26, v24 = some (.int r26) ∧ hs h25 256 = (0, 11) ∧ Ex X PG d 264 0 [some (.ref 256), some (.int (J x1)), some (.int (J x2)), some (.int r26)] [] h25 (fun v27 h28 => ∃ r29, v27 = some (.int r29) ∧ Ex X PG (d + 1) 267 65 [some (.ref 256), some (.int (J x1)), some (.int (J x2)), some (.int (J x3)), some (.int r29), some (.int (J (-1))), l6] [] h28 Q))) ∧ (¬ (r14 = r20) → Ex X PG (d + 1) 267 14 [some (.ref 256), some (.int (J x1)), some (.int (J x2)), some (.int ((J x3) + (J 1))), l4, l5, l6] [] h19 Q)))))))))
  try simp only [aI_wAL, fI_wAL, aL_wA, aL_wF, aI_wA_ne, aI_wF_ne, fI_wA_ne, fI_wF_ne, fI_wF_nk, aL_wAL_ne, J_sameA, J_sameF, aL_same, Nat.add_left_cancel_iff, Nat.add_eq_left, Nat.left_eq_add, not_false_eq_true, Nat.reduceEqDiff, Nat.reduceAdd, J_add, J_sub, J_mul, J_neg, J_and, J_or, J_xor, J_shl, J_shr, J_div, J_i2b, J_i2l, J_l2i, J_lcm, J_max, J_min, J_nab, J_nao, rdA, rdF, rdL, wA_fold, wF_fold, wL_fold, wC_fold]
  refine ⟨(ls256 C_h), _, (lr256_20 C_h), ?_⟩
  refine ⟨congrArg Prod.fst (ls266 C_h), ixs (ls266 C_h) (by decide) (by decide), ?_⟩
  obtain ⟨k4, w⟩ := w
  refine ⟨fun c2 => ?_, fun c2 => ?_⟩
  · have t3 : aI h 266 1 ≤ x3 := ((Jle (rg_toInt _) k4).mp c2)
    replace w := w.1 t3
    exact w
  · have t3 : ¬ aI h 266 1 ≤ x3 := (fun e => c2 ((Jle (rg_toInt _) k4).mpr e))
    replace w := w.2 t3
    refine ⟨(ls256 C_h), ?_⟩
    obtain ⟨k8, w⟩ := w
    obtain ⟨k9, w⟩ := w
    refine m217 (h := h) (x := x3) C_h (by omega) k8 k9 ?_
    refine ⟨_, rfl, ?_⟩
    try simp only [aI_wAL, fI_wAL, aL_wA, aL_wF, aI_wA_ne, aI_wF_ne, fI_wA_ne, fI_wF_ne, fI_wF_nk, aL_wAL_ne, J_sameA, J_sameF, aL_same, Nat.add_left_cancel_iff, Nat.add_eq_left, Nat.left_eq_add, not_false_eq_true, Nat.reduceEqDiff, Nat.reduceAdd, J_add, J_sub, J_mul, J_neg, J_and, J_or, J_xor, J_shl, J_shr, J_div, J_i2b, J_i2l, J_l2i, J_lcm, J_max, J_min, J_nab, J_nao, rdA, rdF, rdL, wA_fold, wF_fold, wL_fold, wC_fold]
    refine ⟨fun c10 => ?_, fun c10 => ?_⟩
    · have t11 : ¬ (opn (aI h 266) (nightP (aI h 266)) x3) := ((bI0 _).mp c10)
      replace w := w.1 t11
      exact w
    · have t11 : (opn (aI h 266) (nightP (aI h 266)) x3) := (Classical.byContradiction fun n => c10 ((bI0 _).mpr n))
      replace w := w.2 t11
      refine ⟨(ls256 C_h), ?_⟩
      obtain ⟨k15, w⟩ := w
      obtain ⟨k16, w⟩ := w
      obtain ⟨k17, w⟩ := w
      refine m260 (h := h) (c := x1) (p := x2) C_h (by omega) k15 k16 k17 ?_
      refine ⟨_, rfl, ?_⟩
      try simp only [aI_wAL, fI_wAL, aL_wA, aL_wF, aI_wA_ne, aI_wF_ne, fI_wA_ne, fI_wF_ne, fI_wF_nk, aL_wAL_ne, J_sameA, J_sameF, aL_same, Nat.add_left_cancel_iff, Nat.add_eq_left, Nat.left_eq_add, not_false_eq_true, Nat.reduceEqDiff, Nat.reduceAdd, J_add, J_sub, J_mul, J_neg, J_and, J_or, J_xor, J_shl, J_shr, J_div, J_i2b, J_i2l, J_l2i, J_lcm, J_max, J_min, J_nab, J_nao, rdA, rdF, rdL, wA_fold, wF_fold, wL_fold, wC_fold]
      refine ⟨(ls256 C_h), ?_⟩
      obtain ⟨k21, w⟩ := w
      refine m218 (h := h) (x := x3) C_h (by omega) k21 ?_
      refine ⟨_, rfl, ?_⟩
      try simp only [aI_wAL, fI_wAL, aL_wA, aL_wF, aI_wA_ne, aI_wF_ne, fI_wA_ne, fI_wF_ne, fI_wF_nk, aL_wAL_ne, J_sameA, J_sameF, aL_same, Nat.add_left_cancel_iff, Nat.add_eq_left, Nat.left_eq_add, not_false_eq_true, Nat.reduceEqDiff, Nat.reduceAdd, J_add, J_sub, J_mul, J_neg, J_and, J_or, J_xor, J_shl, J_shr, J_div, J_i2b, J_i2l, J_l2i, J_lcm, J_max, J_min, J_nab, J_nao, rdA, rdF, rdL, wA_fold, wF_fold, wL_fold, wC_fold]
      refine ⟨fun c22 => ?_, fun c22 => ?_⟩
      · have t23 : dgt (aI h 266 0) x1 x2 = nr (aI h 266) x3 := ((Jeq (dgt_rg _ _ _) (aI_rg _ _ _)).mp c22)
        replace w := w.1 t23
        refine ⟨(ls256 C_h), ?_⟩
        refine m219 (h := h) (x := x3) C_h (by omega) k21 ?_
        refine ⟨_, rfl, ?_⟩
        try simp only [aI_wAL, fI_wAL, aL_wA, aL_wF, aI_wA_ne, aI_wF_ne, fI_wA_ne, fI_wF_ne, fI_wF_nk, aL_wAL_ne, J_sameA, J_sameF, aL_same, Nat.add_left_cancel_iff, Nat.add_eq_left, Nat.left_eq_add, not_false_eq_true, Nat.reduceEqDiff, Nat.reduceAdd, J_add, J_sub, J_mul, J_neg, J_and, J_or, J_xor, J_shl, J_shr, J_div, J_i2b, J_i2l, J_l2i, J_lcm, J_max, J_min, J_nab, J_nao, rdA, rdF, rdL, wA_fold, wF_fold, wL_fold, wC_fold]
        refine ⟨(ls256 C_h), ?_⟩
        refine m264 (h := h) (c := x1) (p := x2) (r := (fr (aI h 266) x3)) C_h (by omega) k15 k16 k17 ?_
        refine ⟨_, rfl, ?_⟩
        try simp only [aI_wAL, fI_wAL, aL_wA, aL_wF, aI_wA_ne, aI_wF_ne, fI_wA_ne, fI_wF_ne, fI_wF_nk, aL_wAL_ne, J_sameA, J_sameF, aL_same, Nat.add_left_cancel_iff, Nat.add_eq_left, Nat.left_eq_add, not_false_eq_true, Nat.reduceEqDiff, Nat.reduceAdd, J_add, J_sub, J_mul, J_neg, J_and, J_or, J_xor, J_shl, J_shr, J_div, J_i2b, J_i2l, J_l2i, J_lcm, J_max, J_min, J_nab, J_nao, rdA, rdF, rdL, wA_fold, wF_fold, wL_fold, wC_fold]
        exact w
      · have t23 : ¬ dgt (aI h 266 0) x1 x2 = nr (aI h 266) x3 := (fun e => c22 ((Jeq (dgt_rg _ _ _) (aI_rg _ _ _)).mpr e))
        replace w := w.2 t23
        exact w
-- OutwardDoorsModel.nextCode(I)I at 65
set_option maxRecDepth 20000 in
set_option maxHeartbeats 4000000 in
theorem r267_65 {X : Cst} {d : Nat} {x1 : Int} {x2 : Int} {x3 : Int} {x4 : Int} {x5 : Int} {l6 : Option Value} {h : AH} {Q : Post} (C_h : Lay h) (hd : 3 ≤ d)
  (w : (-2147483648 ≤ x5 ∧ x5 < 2147483648) ∧ ((aI h 266 2 ≤ x5 → Ex X PG (d + 1) 267 14 [some (.ref 256), some (.int (J x1)), some (.int (J x2)), some (.int (J (x3 + 1))), some (.int (J x4)), some (.int (J x5)), l6] [] h Q) ∧ (¬ aI h 266 2 ≤ x5 → ((x5 < 0 → ((0 ≤ x5 → (0 ≤ x3 ∧ x3 < 14) ∧ (0 ≤ x4 ∧ x4 < 32768) ∧ (0 ≤ x5 ∧ x5 ≤ 5) ∧ (0 < aI h 266 0 ∧ aI h 266 0 ≤ 8) ∧ (0 ≤ mvd (aI h 266 0) x4 x5 (nr (aI h 266) x3) ∧ mvd (aI h 266 0) x4 x5 (nr (aI h 266) x3) < 32768) ∧ (0 ≤ x1 ∧ x1 < 32768) ∧ (-2147483648 ≤ (aI h 272 x1) - 1 ∧ (aI h 272 x1) - 1 < 2147483648) ∧ ((aI h 272 (mvd (aI h 266 0) x4 x5 (nr (aI h 266) x3)) = (aI h 272 x1) - 1 → Q (some (.int (J (mvd (aI h 266 0) x4 x5 (nr (aI h 266) x3))))) (wF (wF (wF h 256 33 x2) 256 34 x3) 256 35 x5)) ∧ (¬ aI h 272 (mvd (aI h 266 0) x4 x5 (nr (aI h 266) x3)) = (aI h 272 x1) - 1 → Ex X PG (d + 1) 267 65 [some (.ref 256), some (.int (J x1)), some (.int (J x2)), some (.int (J x3)), some (.int (J x4)), some (.int (J (x5 + 1))), some (.int (J (mvd (aI h 266 0) x4 x5 (nr (aI h 266) x3))))] [] h Q))) ∧ (¬ 0 ≤ x5 → (0 ≤ x4 ∧ x4 < 32768) ∧ (0 ≤ x1 ∧ x1 < 32768) ∧ (-2147483648 ≤ (aI h 272 x1) - 1 ∧ (aI h 272 x1) - 1 < 2147483648) ∧ ((aI h 272 x4 = (aI h 272 x1) - 1 → Q (some (.int (J x4))) (wF (wF (wF h 256 33 x2) 256 34 x3) 256 35 x5)) ∧ (¬ aI h 272 x4 = (aI h 272 x1) - 1 → Ex X PG (d + 1) 267 65 [some (.ref 256), some (.int (J x1)), some (.int (J x2)), some (.int (J x3)), some (.int (J x4)), some (.int (J (x5 + 1))), some (.int (J x4))] [] h Q))))) ∧ (¬ x5 < 0 → (-2147483648 ≤ x2 ∧ x2 < 2147483648) ∧ ((x5 = x2 → Ex X PG (d + 1) 267 65 [some (.ref 256), some (.int (J x1)), some (.int (J x2)), some (.int (J x3)), some (.int (J x4)), some (.int (J (x5 + 1))), l6] [] h Q) ∧ (¬ x5 = x2 → (0 ≤ x1 ∧ x1 < 32768) ∧ (0 ≤ x5 ∧ x5 ≤ 5) ∧ (0 < aI h 266 0 ∧ aI h 266 0 ≤ 8) ∧ (0 ≤ x3 ∧ x3 < 14) ∧ ((dgt (aI h 266 0) x1 x5 = fr (aI h 266) x3 → ((0 ≤ x5 → (0 ≤ x4 ∧ x4 < 32768) ∧ (0 ≤ mvd (aI h 266 0) x4 x5 (nr (aI h 266) x3) ∧ mvd (aI h 266 0) x4 x5 (nr (aI h 266) x3) < 32768) ∧ (-2147483648 ≤ (aI h 272 x1) - 1 ∧ (aI h 272 x1) - 1 < 2147483648) ∧ ((aI h 272 (mvd (aI h 266 0) x4 x5 (nr (aI h 266) x3)) = (aI h 272 x1) - 1 → Q (some (.int (J (mvd (aI h 266 0) x4 x5 (nr (aI h 266) x3))))) (wF (wF (wF h 256 33 x2) 256 34 x3) 256 35 x5)) ∧ (¬ aI h 272 (mvd (aI h 266 0) x4 x5 (nr (aI h 266) x3)) = (aI h 272 x1) - 1 → Ex X PG (d + 1) 267 65 [some (.ref 256), some (.int (J x1)), some (.int (J x2)), some (.int (J x3)), some (.int (J x4)), some (.int (J (x5 + 1))), some (.int (J (mvd (aI h 266 0) x4 x5 (nr (aI h 266) x3))))] [] h Q))) ∧ (¬ 0 ≤ x5 → (0 ≤ x4 ∧ x4 < 32768) ∧ (-2147483648 ≤ (aI h 272 x1) - 1 ∧ (aI h 272 x1) - 1 < 2147483648) ∧ ((aI h 272 x4 = (aI h 272 x1) - 1 → Q (some (.int (J x4))) (wF (wF (wF h 256 33 x2) 256 34 x3) 256 35 x5)) ∧ (¬ aI h 272 x4 = (aI h 272 x1) - 1 → Ex X PG (d + 1) 267 65 [some (.ref 256), some (.int (J x1)), some (.int (J x2)), some (.int (J x3)), some (.int (J x4)), some (.int (J (x5 + 1))), some (.int (J x4))] [] h Q))))) ∧ (¬ dgt (aI h 266 0) x1 x5 = fr (aI h 266) x3 → Ex X PG (d + 1) 267 65 [some (.ref 256), some (.int (J x1)), some (.int (J x2)), some (.int (J x3)), some (.int (J x4)), some (.int (J (x5 + 1))), l6] [] h Q))))))))) :
    Ex X PG (d + 1) 267 65 [some (.ref 256), some (.int (J x1)), some (.int (J x2)), some (.int (J x3)), some (.int (J x4)), some (.int (J x5)), l6] [] h Q := by
  refine wpx_ok (cut := [2, 14, 65]) 51 d 267 65 _ _ _ _ ?_
  show hs h 256 = (0, 11) ∧ ∃ q1, hR h 256 20 = some q1 ∧ (hs h q1).1 = 1 ∧ ix (J 2) (hs h q1).2 ∧ (((hI h q1 (Int32.toNatClampNeg (J 2))) ≤ (J x5) → Ex X PG (d + 1) 267 14 [some (.ref 256), some (.int (J x1)), some (.int (J x2)), some (.int ((J x3) + (J 1))), some (.int (J x4)), some (.int (J x5)), l6] [] h Q) ∧ (¬ ((hI h q1 (Int32.toNatClampNeg (J 2))) ≤ (J x5)) → (((J x5) < (J 0) → (((J 0) ≤ (J x5) → hs h 256 = (0, 11) ∧ Ex X PG d 218 0 [some (.ref 256), some (.int (J x3))] [] h (fun v9 h10 => ∃ r11, v9 = some (.int r11) ∧ hs h10 256 = (0, 11) ∧ Ex X PG d 264 0 [some (.ref 256), some (.int (J x4)), some (.int (J x5)), some (.int r11)] [] h10 (fun v13 h14 => ∃ r15, v13 = some (.int r15) ∧ hs h14 256 = (0, 11) ∧ ∃ q19, hR h14 256 29 = some q19 ∧ (hs h14 q19).1 = 1 ∧ ix r15 (hs h14 q19).2 ∧ hs h14 256 = (0, 11) ∧ ∃ q21, hR h14 256 29 = some q21 ∧ (hs h14 q21).1 = 1 ∧ ix (J x1) (hs h14 q21).2 ∧ (((hI h14 q19 (Int32.toNatClampNeg r15)) = ((hI h14 q21 (Int32.toNatClampNeg (J x1))) - (J 1)) → hs h14 256 = (0, 11) ∧ hs (wG h14 256 33 (J x2)) 256 = (0, 11) ∧ hs (wG (wG h14 256 33 (J x2)) 256 34 (J x3)) 256 = (0, 11) ∧ Q (some (.int r15)) (wG (wG (wG h14 256 33 (J x2)) 256 34 (J x3)) 256 35 (J x5))) ∧ (¬ ((hI h14 q19 (Int32.toNatClampNeg r15)) = ((hI h14 q21 (Int32.toNatClampNeg (J x1))) - (J 1))) → Ex X PG (d + 1) 267 65 [some (.ref 256), some (.int (J x1)), some (.int (J x2)), some (.int (J x3)), some (.int (J x4)), some (.int ((J x5) + (J 1))), some (.int r15)] [] h14 Q))))) ∧ (¬ ((J 0) ≤ (J x5)) → hs h 256 = (0, 11) ∧ ∃ q26, hR h 256 29 = some q26 ∧ (hs h q26).1 = 1 ∧ ix (J x4) (hs h q26).2 ∧ hs h 256 = (0, 11) ∧ ∃ q28, hR h 256 29 = some q28 ∧ (hs h q28).1 = 1 ∧ ix (J x1) (hs h q28).2 ∧ (((hI h q26 (Int32.toNatClampNeg (J x4))) = ((hI h q28 (Int32.toNatClampNeg (J x1))) - (J 1)) → hs h 256 = (0, 11) ∧ hs (wG h 256 33 (J x2)) 256 = (0, 11) ∧ hs (wG (wG h 256 33 (J x2)) 256 34 (J x3)) 256 = (0, 11) ∧ Q (some (.int (J x4))) (wG (wG (wG h 256 33 (J x2)) 256 34 (J x3)) 256 35 (J x5))) ∧ (¬ ((hI h q26 (Int32.toNatClampNeg (J x4))) = ((hI h q28 (Int32.toNatClampNeg (J x1))) - (J 1))) → Ex X PG (d + 1) 267 65 [some (.ref 256), some (.int (J x1)), some (.int (J x2)), some (.int (J x3)), some (.int (J x4)), some (.int ((J x5) + (J 1))), some (.int (J x4))] [] h Q))))) ∧ (¬ ((J x5) < (J 0)) → (((J x5) = (J x2) → Ex X PG (d + 1) 267 65 [some (.ref 256), some (.int (J x1)), some (.int (J x2)), some (.int (J x3)), some (.int (J x4)), some (.int ((J x5) + (J 1))), l6] [] h Q) ∧ (¬ ((J x5) = (J x2)) → hs h 256 = (0, 11) ∧ Ex X PG d 260 0 [some (.ref 256), some (.int (J x1)), some (.int (J x5))] [] h (fun v36 h37 => ∃ r38, v36 = some (.int r38) ∧ hs h37 256 = (0, 11) ∧ Ex X PG d 219 0 [some (.ref 256), some (.int (J x3))] [] h37 (fun v42 h43 => ∃ r44, v42 = some (.int r44) ∧ ((r38 = r44 → (((J 0) ≤ (J x5) → hs h43 256 = (0, 11) ∧ Ex X PG d 218 0 [some (.ref 256), some (.int (J x3))] [] h43 (fun v50 h51 => ∃ r52, v50 = some (.int r52) ∧ hs h51 256 = (0, 11) ∧ Ex X PG d 264 0 [some (.ref 256), some (.int (J x4)), some (.int (J x5)), some (.int r52)] [] h51 (fun v53 h54 => ∃ r55, v53 = some (.int r55) ∧ hs h54 256 = (0, 11) ∧ ∃ q57, hR h54 256 29 = some q57 ∧ (hs h54 q57).1 = 1 ∧ ix r55 (hs h54 q57).2 ∧ hs h54 256 = (0, 11) ∧ ∃ q59, hR h54 256 29 = some q59 ∧ (hs h54 q59).1 = 1 ∧ ix (J x1) (hs h54 q59).2 ∧ (((hI h54 q57 (Int32.toNatClampNeg r55)) = ((hI h54 q59 (Int32.toNatClampNeg (J x1))) - (J 1)) → hs h54 256 = (0, 11) ∧ hs (wG h54 256 33 (J x2)) 256 = (0, 11) ∧ hs (wG (wG h54 256 33 (J x2)) 256 34 (J x3)) 256 = (0, 11) ∧ Q (some (.int r55)) (wG (wG (wG h54 256 33 (J x2)) 256 34 (J x3)) 256 35 (J x5))) ∧ (¬ ((hI h54 q57 (Int32.toNatClampNeg r55)) = ((hI h54 q59 (Int32.toNatClampNeg (J x1))) - (J 1))) → Ex X PG (d + 1) 267 65 [some (.ref 256), some (.int (J x1)), some (.int (J x2)), some (.int (J x3)), some (.int (J x4)), some (.int ((J x5) + (J 1))), some (.int r55)] [] h54 Q))))) ∧ (¬ ((J 0) ≤ (J x5)) → hs h43 256 = (0, 11) ∧ ∃ q63, hR h43 256 29 = some q63 ∧ (hs h43 q63).1 = 1 ∧ ix (J x4) (hs h43 q63).2 ∧ hs h43 256 = (0, 11) ∧ ∃ q65, hR h43 256 29 = some q65 ∧ (hs h43 q65).1 = 1 ∧ ix (J x1) (hs h43 q65).2 ∧ (((hI h43 q63 (Int32.toNatClampNeg (J x4))) = ((hI h43 q65 (Int32.toNatClampNeg (J x1))) - (J 1)) → hs h43 256 = (0, 11) ∧ hs (wG h43 256 33 (J x2)) 256 = (0, 11) ∧ hs (wG (wG h43 256 33 (J x2)) 256 34 (J x3)) 256 = (0, 11) ∧ Q (some (.int (J x4))) (wG (wG (wG h43 256 33 (J x2)) 256 34 (J x3)) 256 35 (J x5))) ∧ (¬ ((hI h43 q63 (Int32.toNatClampNeg (J x4))) = ((hI h43 q65 (Int32.toNatClampNeg (J x1))) - (J 1))) → Ex X PG (d + 1) 267 65 [some (.ref 256), some (.int (J x1)), some (.int (J x2)), some (.int (J x3)), some (.int (J x4)), some (.int ((J x5) + (J 1))), some (.int (J x4))] [] h43 Q))))) ∧ (¬ (r38 = r44) → Ex X PG (d + 1) 267 65 [some (.ref 256), some (.int (J x1)), some (.int (J x2)), some (.int (J x3)), some (.int (J x4)), some (.int ((J x5) + (J 1))), l6] [] h43 Q))))))))))
  try simp only [aI_wAL, fI_wAL, aL_wA, aL_wF, aI_wA_ne, aI_wF_ne, fI_wA_ne, fI_wF_ne, fI_wF_nk, aL_wAL_ne, J_sameA, J_sameF, aL_same, Nat.add_left_cancel_iff, Nat.add_eq_left, Nat.left_eq_add, not_false_eq_true, Nat.reduceEqDiff, Nat.reduceAdd, J_add, J_sub, J_mul, J_neg, J_and, J_or, J_xor, J_shl, J_shr, J_div, J_i2b, J_i2l, J_l2i, J_lcm, J_max, J_min, J_nab, J_nao, rdA, rdF, rdL, wA_fold, wF_fold, wL_fold, wC_fold]
  refine ⟨(ls256 C_h), _, (lr256_20 C_h), ?_⟩
  refine ⟨congrArg Prod.fst (ls266 C_h), ixs (ls266 C_h) (by decide) (by decide), ?_⟩
  obtain ⟨k4, w⟩ := w
  refine ⟨fun c2 => ?_, fun c2 => ?_⟩
  · have t3 : aI h 266 2 ≤ x5 := ((Jle (rg_toInt _) k4).mp c2)
    replace w := w.1 t3
    exact w
  · have t3 : ¬ aI h 266 2 ≤ x5 := (fun e => c2 ((Jle (rg_toInt _) k4).mpr e))
    replace w := w.2 t3
    refine ⟨fun c5 => ?_, fun c5 => ?_⟩
    · have t6 : x5 < 0 := ((Jlt k4 (by decide)).mp c5)
      replace w := w.1 t6
      refine ⟨fun c7 => ?_, fun c7 => ?_⟩
      · have t8 : 0 ≤ x5 := ((Jle (by decide) k4).mp c7)
        replace w := w.1 t8
        refine ⟨(ls256 C_h), ?_⟩
        obtain ⟨k12, w⟩ := w
        refine m218 (h := h) (x := x3) C_h (by omega) k12 ?_
        refine ⟨_, rfl, ?_⟩
        try simp only [aI_wAL, fI_wAL, aL_wA, aL_wF, aI_wA_ne, aI_wF_ne, fI_wA_ne, fI_wF_ne, fI_wF_nk, aL_wAL_ne, J_sameA, J_sameF, aL_same, Nat.add_left_cancel_iff, Nat.add_eq_left, Nat.left_eq_add, not_false_eq_true, Nat.reduceEqDiff, Nat.reduceAdd, J_add, J_sub, J_mul, J_neg, J_and, J_or, J_xor, J_shl, J_shr, J_div, J_i2b, J_i2l, J_l2i, J_lcm, J_max, J_min, J_nab, J_nao, rdA, rdF, rdL, wA_fold, wF_fold, wL_fold, wC_fold]
        refine ⟨(ls256 C_h), ?_⟩
        obtain ⟨k16, w⟩ := w
        obtain ⟨k17, w⟩ := w
        obtain ⟨k18, w⟩ := w
        refine m264 (h := h) (c := x4) (p := x5) (r := (nr (aI h 266) x3)) C_h (by omega) k16 k17 k18 ?_
        refine ⟨_, rfl, ?_⟩
        try simp only [aI_wAL, fI_wAL, aL_wA, aL_wF, aI_wA_ne, aI_wF_ne, fI_wA_ne, fI_wF_ne, fI_wF_nk, aL_wAL_ne, J_sameA, J_sameF, aL_same, Nat.add_left_cancel_iff, Nat.add_eq_left, Nat.left_eq_add, not_false_eq_true, Nat.reduceEqDiff, Nat.reduceAdd, J_add, J_sub, J_mul, J_neg, J_and, J_or, J_xor, J_shl, J_shr, J_div, J_i2b, J_i2l, J_l2i, J_lcm, J_max, J_min, J_nab, J_nao, rdA, rdF, rdL, wA_fold, wF_fold, wL_fold, wC_fold]
        refine ⟨(ls256 C_h), _, (lr256_29 C_h), ?_⟩
        obtain ⟨k20, w⟩ := w
        refine ⟨congrArg Prod.fst (ls272 C_h), ixs (ls272 C_h) k20 (by decide), ?_⟩
        refine ⟨(ls256 C_h), _, (lr256_29 C_h), ?_⟩
        obtain ⟨k22, w⟩ := w
        refine ⟨congrArg Prod.fst (ls272 C_h), ixs (ls272 C_h) k22 (by decide), ?_⟩
        obtain ⟨k25, w⟩ := w
        refine ⟨fun c23 => ?_, fun c23 => ?_⟩
        · have t24 : aI h 272 (mvd (aI h 266 0) x4 x5 (nr (aI h 266) x3)) = (aI h 272 x1) - 1 := ((Jeq (rg_toInt _) k25).mp c23)
          replace w := w.1 t24
          refine ⟨(ls256 C_h), ?_⟩
          refine ⟨(ls256 C_h), ?_⟩
          refine ⟨(ls256 C_h), ?_⟩
          exact w
        · have t24 : ¬ aI h 272 (mvd (aI h 266 0) x4 x5 (nr (aI h 266) x3)) = (aI h 272 x1) - 1 := (fun e => c23 ((Jeq (rg_toInt _) k25).mpr e))
          replace w := w.2 t24
          exact w
      · have t8 : ¬ 0 ≤ x5 := (fun e => c7 ((Jle (by decide) k4).mpr e))
        replace w := w.2 t8
        refine ⟨(ls256 C_h), _, (lr256_29 C_h), ?_⟩
        obtain ⟨k27, w⟩ := w
        refine ⟨congrArg Prod.fst (ls272 C_h), ixs (ls272 C_h) k27 (by decide), ?_⟩
        refine ⟨(ls256 C_h), _, (lr256_29 C_h), ?_⟩
        obtain ⟨k29, w⟩ := w
        refine ⟨congrArg Prod.fst (ls272 C_h), ixs (ls272 C_h) k29 (by decide), ?_⟩
        obtain ⟨k32, w⟩ := w
        refine ⟨fun c30 => ?_, fun c30 => ?_⟩
        · have t31 : aI h 272 x4 = (aI h 272 x1) - 1 := ((Jeq (rg_toInt _) k32).mp c30)
          replace w := w.1 t31
          refine ⟨(ls256 C_h), ?_⟩
          refine ⟨(ls256 C_h), ?_⟩
          refine ⟨(ls256 C_h), ?_⟩
          exact w
        · have t31 : ¬ aI h 272 x4 = (aI h 272 x1) - 1 := (fun e => c30 ((Jeq (rg_toInt _) k32).mpr e))
          replace w := w.2 t31
          exact w
    · have t6 : ¬ x5 < 0 := (fun e => c5 ((Jlt k4 (by decide)).mpr e))
      replace w := w.2 t6
      obtain ⟨k35, w⟩ := w
      refine ⟨fun c33 => ?_, fun c33 => ?_⟩
      · have t34 : x5 = x2 := ((Jeq k4 k35).mp c33)
        replace w := w.1 t34
        exact w
      · have t34 : ¬ x5 = x2 := (fun e => c33 ((Jeq k4 k35).mpr e))
        replace w := w.2 t34
        refine ⟨(ls256 C_h), ?_⟩
        obtain ⟨k39, w⟩ := w
        obtain ⟨k40, w⟩ := w
        obtain ⟨k41, w⟩ := w
        refine m260 (h := h) (c := x1) (p := x5) C_h (by omega) k39 k40 k41 ?_
        refine ⟨_, rfl, ?_⟩
        try simp only [aI_wAL, fI_wAL, aL_wA, aL_wF, aI_wA_ne, aI_wF_ne, fI_wA_ne, fI_wF_ne, fI_wF_nk, aL_wAL_ne, J_sameA, J_sameF, aL_same, Nat.add_left_cancel_iff, Nat.add_eq_left, Nat.left_eq_add, not_false_eq_true, Nat.reduceEqDiff, Nat.reduceAdd, J_add, J_sub, J_mul, J_neg, J_and, J_or, J_xor, J_shl, J_shr, J_div, J_i2b, J_i2l, J_l2i, J_lcm, J_max, J_min, J_nab, J_nao, rdA, rdF, rdL, wA_fold, wF_fold, wL_fold, wC_fold]
        refine ⟨(ls256 C_h), ?_⟩
        obtain ⟨k45, w⟩ := w
        refine m219 (h := h) (x := x3) C_h (by omega) k45 ?_
        refine ⟨_, rfl, ?_⟩
        try simp only [aI_wAL, fI_wAL, aL_wA, aL_wF, aI_wA_ne, aI_wF_ne, fI_wA_ne, fI_wF_ne, fI_wF_nk, aL_wAL_ne, J_sameA, J_sameF, aL_same, Nat.add_left_cancel_iff, Nat.add_eq_left, Nat.left_eq_add, not_false_eq_true, Nat.reduceEqDiff, Nat.reduceAdd, J_add, J_sub, J_mul, J_neg, J_and, J_or, J_xor, J_shl, J_shr, J_div, J_i2b, J_i2l, J_l2i, J_lcm, J_max, J_min, J_nab, J_nao, rdA, rdF, rdL, wA_fold, wF_fold, wL_fold, wC_fold]
        refine ⟨fun c46 => ?_, fun c46 => ?_⟩
        · have t47 : dgt (aI h 266 0) x1 x5 = fr (aI h 266) x3 := ((Jeq (dgt_rg _ _ _) (aI_rg _ _ _)).mp c46)
          replace w := w.1 t47
          refine ⟨fun c48 => ?_, fun c48 => ?_⟩
          · have t49 : 0 ≤ x5 := ((Jle (by decide) k4).mp c48)
            replace w := w.1 t49
            refine ⟨(ls256 C_h), ?_⟩
            refine m218 (h := h) (x := x3) C_h (by omega) k45 ?_
            refine ⟨_, rfl, ?_⟩
            try simp only [aI_wAL, fI_wAL, aL_wA, aL_wF, aI_wA_ne, aI_wF_ne, fI_wA_ne, fI_wF_ne, fI_wF_nk, aL_wAL_ne, J_sameA, J_sameF, aL_same, Nat.add_left_cancel_iff, Nat.add_eq_left, Nat.left_eq_add, not_false_eq_true, Nat.reduceEqDiff, Nat.reduceAdd, J_add, J_sub, J_mul, J_neg, J_and, J_or, J_xor, J_shl, J_shr, J_div, J_i2b, J_i2l, J_l2i, J_lcm, J_max, J_min, J_nab, J_nao, rdA, rdF, rdL, wA_fold, wF_fold, wL_fold, wC_fold]
            refine ⟨(ls256 C_h), ?_⟩
            obtain ⟨k56, w⟩ := w
            refine m264 (h := h) (c := x4) (p := x5) (r := (nr (aI h 266) x3)) C_h (by omega) k56 k40 k41 ?_
            refine ⟨_, rfl, ?_⟩
            try simp only [aI_wAL, fI_wAL, aL_wA, aL_wF, aI_wA_ne, aI_wF_ne, fI_wA_ne, fI_wF_ne, fI_wF_nk, aL_wAL_ne, J_sameA, J_sameF, aL_same, Nat.add_left_cancel_iff, Nat.add_eq_left, Nat.left_eq_add, not_false_eq_true, Nat.reduceEqDiff, Nat.reduceAdd, J_add, J_sub, J_mul, J_neg, J_and, J_or, J_xor, J_shl, J_shr, J_div, J_i2b, J_i2l, J_l2i, J_lcm, J_max, J_min, J_nab, J_nao, rdA, rdF, rdL, wA_fold, wF_fold, wL_fold, wC_fold]
            refine ⟨(ls256 C_h), _, (lr256_29 C_h), ?_⟩
            obtain ⟨k58, w⟩ := w
            refine ⟨congrArg Prod.fst (ls272 C_h), ixs (ls272 C_h) k58 (by decide), ?_⟩
            refine ⟨(ls256 C_h), _, (lr256_29 C_h), ?_⟩
            refine ⟨congrArg Prod.fst (ls272 C_h), ixs (ls272 C_h) k39 (by decide), ?_⟩
            obtain ⟨k62, w⟩ := w
            refine ⟨fun c60 => ?_, fun c60 => ?_⟩
            · have t61 : aI h 272 (mvd (aI h 266 0) x4 x5 (nr (aI h 266) x3)) = (aI h 272 x1) - 1 := ((Jeq (rg_toInt _) k62).mp c60)
              replace w := w.1 t61
              refine ⟨(ls256 C_h), ?_⟩
              refine ⟨(ls256 C_h), ?_⟩
              refine ⟨(ls256 C_h), ?_⟩
              exact w
            · have t61 : ¬ aI h 272 (mvd (aI h 266 0) x4 x5 (nr (aI h 266) x3)) = (aI h 272 x1) - 1 := (fun e => c60 ((Jeq (rg_toInt _) k62).mpr e))
              replace w := w.2 t61
              exact w
          · have t49 : ¬ 0 ≤ x5 := (fun e => c48 ((Jle (by decide) k4).mpr e))
            replace w := w.2 t49
            refine ⟨(ls256 C_h), _, (lr256_29 C_h), ?_⟩
            obtain ⟨k64, w⟩ := w
            refine ⟨congrArg Prod.fst (ls272 C_h), ixs (ls272 C_h) k64 (by decide), ?_⟩
            refine ⟨(ls256 C_h), _, (lr256_29 C_h), ?_⟩
            refine ⟨congrArg Prod.fst (ls272 C_h), ixs (ls272 C_h) k39 (by decide), ?_⟩
            obtain ⟨k68, w⟩ := w
            refine ⟨fun c66 => ?_, fun c66 => ?_⟩
            · have t67 : aI h 272 x4 = (aI h 272 x1) - 1 := ((Jeq (rg_toInt _) k68).mp c66)
              replace w := w.1 t67
              refine ⟨(ls256 C_h), ?_⟩
              refine ⟨(ls256 C_h), ?_⟩
              refine ⟨(ls256 C_h), ?_⟩
              exact w
            · have t67 : ¬ aI h 272 x4 = (aI h 272 x1) - 1 := (fun e => c66 ((Jeq (rg_toInt _) k68).mpr e))
              replace w := w.2 t67
              exact w
        · have t47 : ¬ dgt (aI h 266 0) x1 x5 = fr (aI h 266) x3 := (fun e => c46 ((Jeq (dgt_rg _ _ _) (aI_rg _ _ _)).mpr e))
          replace w := w.2 t47
          exact w
theorem m267 {X : Cst} {d : Nat} {c v M : Int} {f : Int → Int} {G : (Int → Int) → Prop} {S : Int → Int} {h : AH} {Q : Post} (C : Lay h) (hd : 5 ≤ d) (eS : aI h 266 = S) (W : WF M S) (hM : M ≤ 999) (hn : 0 < S 0) (kf : Kf (S 2).toNat (S 0) f) (ec : c = enc (S 0) (S 2).toNat f)
    (PD : ∀ f, Kf (S 2).toNat (S 0) f → IsD (Edg S (nightP S) (S 2).toNat (-1)) G f (aI h 272 (enc (S 0) (S 2).toNat f))) (ev : aI h 272 c = v) (hv : 0 < v)
    (k : ∀ h' p d' q g, Fr (fun c j => c = 256 ∧ (33 ≤ j ∧ j ≤ 35)) h h' → Fst S (nightP S) (S 2).toNat (IsD (Edg S (nightP S) (S 2).toNat (-1)) G) v f p d' q g → fI h' 256 33 = p → fI h' 256 34 = d' → fI h' 256 35 = q → Q (some (.int (J (enc (S 0) (S 2).toNat g)))) h') : Ex X PG d 267 0 [some (.ref 256), some (.int (J c)), none, none, none, none, none] [] h Q := by
  obtain ⟨d, rfl⟩ : ∃ e, d = e + 1 := ⟨d - 1, by omega⟩
  have b := W.1
  unfold WFb at b
  have W9 : WF 999 S := W.up hM
  have hn8 : 0 < S 0 ∧ S 0 ≤ 8 := by omega
  have hm5 : (S 2).toNat ≤ 5 := by omega
  have pw := pw_32k hn8.1 hn8.2 hm5
  have eb : ∀ g, Kf (S 2).toNat (S 0) g → 0 ≤ enc (S 0) (S 2).toNat g ∧ enc (S 0) (S 2).toNat g < S 0 ^ (S 2).toNat := fun g kg => enc_b hn _ g kg.1
  have cb := eb f kf
  rw [← ec] at cb
  have vr := aI_rg h 272 c
  rw [ev] at vr
  have dgc : ∀ p : Int, 0 ≤ p → p < S 2 → dgt (S 0) c p = f p := fun p p0 p1 => by rw [ec]; exact dgt_enc hn8 kf (by omega)
  have mv : ∀ g, Kf (S 2).toNat (S 0) g → ∀ p r : Int, 0 ≤ p → p < S 2 → mvd (S 0) (enc (S 0) (S 2).toNat g) p r = enc (S 0) (S 2).toNat (fu g p r) := fun g kg p r p0 p1 => mvd_enc hn8 hm5 kg (by omega) r
  -- what is tried so far
  have tri : ∀ p' d' q' g', Lbl S (nightP S) (S 2).toNat (-1) f p' d' q' g' → IsD (Edg S (nightP S) (S 2).toNat (-1)) G g' (v - 1) → aI h 272 (enc (S 0) (S 2).toNat g') = v - 1 := fun p' d' q' g' hl hD => (PD g' (Lbl_K W hl kf)).uniq hD
  have rng : ∀ p' d' q' g', Lbl S (nightP S) (S 2).toNat (-1) f p' d' q' g' → (0 ≤ p' ∧ p' < S 2) ∧ (0 ≤ d' ∧ d' < S 1) ∧ (-1 ≤ q' ∧ q' < S 2) := by
    intro p' d' q' g' ⟨h1, h2, h3, h4⟩
    refine ⟨by omega, h1, ?_⟩
    rcases h4 with ⟨_, ⟨z, _⟩ | ⟨z, _⟩⟩ | ⟨z, _⟩ <;> omega
  have lo : ∀ (z : Nat) (p : Int) (l3 l4 l5 l6 : Option Value), S 2 - p = z → 0 ≤ p → (∀ p' d' q' g', Lbl S (nightP S) (S 2).toNat (-1) f p' d' q' g' → aI h 272 (enc (S 0) (S 2).toNat g') = v - 1 → p ≤ p') → Ex X PG (d + 1) 267 2 [some (.ref 256), some (.int (J c)), some (.int (J p)), l3, l4, l5, l6] [] h Q := by
    intro z
    induction z with
    | zero =>
      intro p l3 l4 l5 l6 e1 p0 a
      exfalso
      have D := PD f kf
      rw [← ec, ev] at D
      rcases D with ⟨z, _⟩ | ⟨_, r, l⟩
      · omega
      · rw [show v.toNat = (v - 1).toNat + 1 by omega] at r
        obtain ⟨g, ⟨p', d', q', hl⟩, rg⟩ := r
        have kg := Lbl_K W hl kf
        have Dg := PD g kg
        have : aI h 272 (enc (S 0) (S 2).toNat g) = v - 1 := by
          rcases Dg with ⟨_, z⟩ | ⟨z0, zr, zl⟩
          · exact absurd rg (z _)
          · have := zl _ rg
            have := l ((aI h 272 (enc (S 0) (S 2).toNat g)).toNat + 1) ⟨g, ⟨p', d', q', hl⟩, zr⟩
            omega
        have := a p' d' q' g hl this
        have := rng p' d' q' g hl
        omega
    | succ z ih =>
      intro p l3 l4 l5 l6 e1 p0 a
      refine r267_2 C ?_
      rw [eS]
      refine ⟨by omega, fun y => absurd y (by omega), fun _ => ?_⟩
      have l1 : ∀ (y : Nat) (e : Int) (l4 l5 l6 : Option Value), S 1 - e = y → 0 ≤ e → (∀ p' d' q' g', Lbl S (nightP S) (S 2).toNat (-1) f p' d' q' g' → aI h 272 (enc (S 0) (S 2).toNat g') = v - 1 → p < p' ∨ (p = p' ∧ e ≤ d')) → Ex X PG (d + 1) 267 14 [some (.ref 256), some (.int (J c)), some (.int (J p)), some (.int (J e)), l4, l5, l6] [] h Q := by
        intro y
        induction y with
        | zero =>
          intro e l4 l5 l6 y1 e0 a
          refine r267_14 C (by omega) ?_
          rw [eS]
          refine ⟨by omega, fun _ => ih (p + 1) _ _ _ _ (by omega) (by omega) (fun p' d' q' g' hl hv => ?_), fun y => absurd (by omega) y⟩
          have := a p' d' q' g' hl hv
          have := rng p' d' q' g' hl
          omega
        | succ y ih2 =>
          intro e l4 l5 l6 y1 e0 a
          have dk := dr_ok W (d := e) (by omega)
          refine r267_14 C (by omega) ?_
          rw [eS]
          refine ⟨by omega, fun y => absurd y (by omega), fun _ => ⟨W9, by omega, fun op => ?_, fun op => ⟨by omega, by omega, hn8, by omega, ?_⟩⟩⟩
          · refine ih2 (e + 1) _ _ _ (by omega) (by omega) (fun p' d' q' g' hl hv => ?_)
            have := a p' d' q' g' hl hv
            by_cases q : p = p' ∧ e = d'
            · exact absurd (by rw [q.2]; exact hl.2.1) op
            · omega
          rw [dgc p p0 (by omega)]
          refine ⟨fun c1 => ?_, fun c1 => ?_⟩
          · have k1 := kf.fu (p := p) (by omega) dk.2
            have e1' : mvd (S 0) c p (fr S e) = enc (S 0) (S 2).toNat (fu f p (fr S e)) := by rw [ec]; exact mv f kf p _ p0 (by omega)
            rw [e1']
            have eb1 := eb _ k1
            have fnd : ∀ q g, Lbl S (nightP S) (S 2).toNat (-1) f p e q g → aI h 272 (enc (S 0) (S 2).toNat g) = v - 1 → (∀ p' d' q' g', Lbl S (nightP S) (S 2).toNat (-1) f p' d' q' g' → aI h 272 (enc (S 0) (S 2).toNat g') = v - 1 → p < p' ∨ (p = p' ∧ (e < d' ∨ (e = d' ∧ q ≤ q')))) → Q (some (.int (J (enc (S 0) (S 2).toNat g)))) (wF (wF (wF h 256 33 p) 256 34 e) 256 35 q) := by
              intro q g hl hv a
              have rq := rng p e q g hl
              refine k _ p e q g ((((Fr.rf (T := fun c j => c = 256 ∧ (33 ≤ j ∧ j ≤ 35))).wF (by omega)).wF (by omega)).wF (by omega)) ⟨hl, ?_, fun p' d' q' g' hl' hD => ?_⟩ ?_ ?_ ?_
              · have := PD g (Lbl_K W hl kf); rw [hv] at this; exact this
              · have := a p' d' q' g' hl' (tri p' d' q' g' hl' hD)
                have := rng p' d' q' g' hl'
                unfold lab
                omega
              · rw [fI_wF_nk (by decide), fI_wF_nk (by decide), fI_wF_eq (by omega)]
              · rw [fI_wF_nk (by decide), fI_wF_eq (by omega)]
              · rw [fI_wF_eq (by omega)]
            have l2 : ∀ (u : Nat) (q : Int) (l6 : Option Value), S 2 - q = u → -1 ≤ q → (∀ p' d' q' g', Lbl S (nightP S) (S 2).toNat (-1) f p' d' q' g' → aI h 272 (enc (S 0) (S 2).toNat g') = v - 1 → p < p' ∨ (p = p' ∧ (e < d' ∨ (e = d' ∧ q ≤ q')))) → Ex X PG (d + 1) 267 65 [some (.ref 256), some (.int (J c)), some (.int (J p)), some (.int (J e)), some (.int (J (enc (S 0) (S 2).toNat (fu f p (fr S e))))), some (.int (J q)), l6] [] h Q := by
              intro u
              induction u with
              | zero =>
                intro q l6 u1 q0 a
                refine r267_65 C (by omega) ?_
                rw [eS]
                refine ⟨by omega, fun _ => ih2 (e + 1) _ _ _ (by omega) (by omega) (fun p' d' q' g' hl hv => ?_), fun y => absurd (by omega) y⟩
                have := a p' d' q' g' hl hv
                have := rng p' d' q' g' hl
                omega
              | succ u ih3 =>
                intro q l6 u1 q0 a
                -- nothing there by q
                have nx : (∀ g', Lbl S (nightP S) (S 2).toNat (-1) f p e q g' → ¬ aI h 272 (enc (S 0) (S 2).toNat g') = v - 1) → ∀ l6, Ex X PG (d + 1) 267 65 [some (.ref 256), some (.int (J c)), some (.int (J p)), some (.int (J e)), some (.int (J (enc (S 0) (S 2).toNat (fu f p (fr S e))))), some (.int (J (q + 1))), l6] [] h Q := by
                  intro no l6
                  refine ih3 (q + 1) l6 (by omega) (by omega) (fun p' d' q' g' hl hv => ?_)
                  have := a p' d' q' g' hl hv
                  by_cases z : p = p' ∧ e = d' ∧ q = q'
                  · obtain ⟨rfl, rfl, rfl⟩ := z
                    exact absurd hv (no g' hl)
                  · omega
                refine r267_65 C (by omega) ?_
                rw [eS, ev]
                refine ⟨by omega, fun y => absurd y (by omega), fun _ => ⟨fun cq => ⟨fun y => absurd y (by omega), fun _ => ⟨by omega, by omega, by omega, fun c2 => ?_, fun c2 => ?_⟩⟩, fun cq => ⟨by omega, fun c2 => ?_, fun c2 => ⟨by omega, by omega, hn8, by omega, ?_⟩⟩⟩⟩
                · have q1 : q = -1 := by omega
                  subst q1
                  exact fnd (-1) _ ⟨by omega, op, by omega, Or.inl ⟨c1, Or.inl ⟨rfl, rfl⟩⟩⟩ c2 a
                · have q1 : q = -1 := by omega
                  subst q1
                  refine nx (fun g' hl => ?_) _
                  obtain ⟨_, _, _, hl4⟩ := hl
                  rcases hl4 with ⟨_, ⟨_, rfl⟩ | ⟨z, _⟩⟩ | ⟨z, _⟩
                  · exact c2
                  · omega
                  · omega
                · refine nx (fun g' hl => ?_) _
                  obtain ⟨_, _, _, hl4⟩ := hl
                  rcases hl4 with ⟨_, ⟨z, _⟩ | ⟨_, z, _⟩⟩ | ⟨z, _⟩
                  · omega
                  · exact absurd c2 z
                  · omega
                rw [dgc q (by omega) (by omega)]
                refine ⟨fun c3 => ⟨fun _ => ?_, fun y => absurd (by omega) y⟩, fun c3 => ?_⟩
                · have k2 := k1.fu (p := q) (by omega) dk.1
                  rw [mv _ k1 q _ (by omega) (by omega)]
                  have eb2 := eb _ k2
                  refine ⟨by omega, by omega, by omega, fun c4 => ?_, fun c4 => ?_⟩
                  · exact fnd q _ ⟨by omega, op, by omega, Or.inl ⟨c1, Or.inr ⟨by omega, c2, c3, rfl⟩⟩⟩ c4 a
                  · refine nx (fun g' hl => ?_) _
                    obtain ⟨_, _, _, hl4⟩ := hl
                    rcases hl4 with ⟨_, ⟨z, _⟩ | ⟨_, _, _, rfl⟩⟩ | ⟨z, _⟩
                    · omega
                    · exact c4
                    · omega
                · refine nx (fun g' hl => ?_) _
                  obtain ⟨_, _, _, hl4⟩ := hl
                  rcases hl4 with ⟨_, ⟨z, _⟩ | ⟨_, _, z, _⟩⟩ | ⟨z, _⟩
                  · omega
                  · exact absurd z c3
                  · omega
            refine l2 (S 2 + 1).toNat (-1) l6 (by omega) (by omega) (fun p' d' q' g' hl hv => ?_)
            have := a p' d' q' g' hl hv
            have := rng p' d' q' g' hl
            omega
          · refine ih2 (e + 1) _ _ _ (by omega) (by omega) (fun p' d' q' g' hl hv => ?_)
            have := a p' d' q' g' hl hv
            by_cases q : p = p' ∧ e = d'
            · obtain ⟨rfl, rfl⟩ := q
              obtain ⟨z1, _, _, hl4⟩ := hl
              rcases hl4 with ⟨z, _⟩ | ⟨z, _⟩
              · exact absurd z c1
              · omega
            · omega
      refine l1 (S 1).toNat 0 _ _ _ (by omega) (by omega) (fun p' d' q' g' hl hv => ?_)
      have := a p' d' q' g' hl hv
      have := rng p' d' q' g' hl
      omega
  refine r267_0 C ?_
  exact lo (S 2).toNat 0 _ _ _ _ (by omega) (by omega) (fun p' d' q' g' hl hv => (rng p' d' q' g' hl).1.1)
