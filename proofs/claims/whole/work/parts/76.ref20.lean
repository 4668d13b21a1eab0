/-! THE REFERENCE: the first row of passings. -/
/-- a row from f that takes the first passing at each place, n passings of v -/
def GrW (S : Int → Int) (t : Prop) (m : Nat) (D : (Int → Int) → Int → Prop) (v : Int) (f : Int → Int) (n : Nat) (s : Nat → Int → Int) (l : Nat → Int × Int × Int) : Prop :=
  s 0 = f ∧ ∀ i : Nat, i < n → Fst S t m D (v - i) (s i) (l i).1 (l i).2.1 (l i).2.2 (s (i + 1))
theorem Lbl_rg {S : Int → Int} {t : Prop} {m : Nat} {f g : Int → Int} {p d q : Int} (h : Lbl S t m (-1) f p d q g) : (0 ≤ p ∧ p < m) ∧ (0 ≤ d ∧ d < S 1) ∧ (-1 ≤ q ∧ q < m) := by
  obtain ⟨h1, h2, h3, h4⟩ := h
  refine ⟨h3, h1, ?_⟩
  rcases h4 with ⟨_, ⟨z, _⟩ | ⟨z, _⟩⟩ | ⟨z, _⟩ <;> omega
theorem Lbl_det {S : Int → Int} {t : Prop} {m : Nat} {f g g' : Int → Int} {p d q : Int} (h : Lbl S t m (-1) f p d q g) (h' : Lbl S t m (-1) f p d q g') : g = g' := by
  obtain ⟨h1, h2, h3, h4⟩ := h
  obtain ⟨_, _, _, h5⟩ := h'
  rcases h4 with ⟨_, ⟨z, rfl⟩ | ⟨z, _, _, rfl⟩⟩ | ⟨z, _⟩
  · rcases h5 with ⟨_, ⟨y, rfl⟩ | ⟨y, _⟩⟩ | ⟨y, _⟩
    · rfl
    · omega
    · omega
  · rcases h5 with ⟨_, ⟨y, _⟩ | ⟨y, _, _, rfl⟩⟩ | ⟨y, _⟩
    · omega
    · rfl
    · omega
  · omega
theorem lab_inj {p d q p' d' q' : Int} (a : lab p d q = lab p' d' q') (h1 : 0 ≤ d ∧ d < 16) (h2 : 0 ≤ d' ∧ d' < 16) (h3 : -1 ≤ q ∧ q < 7) (h4 : -1 ≤ q' ∧ q' < 7) : p = p' ∧ d = d' ∧ q = q' := by unfold lab at a; omega
theorem Fst.uniq {S : Int → Int} {t : Prop} {m : Nat} {D : (Int → Int) → Int → Prop} {v : Int} {f g g' : Int → Int} {p d q p' d' q' : Int} (x : Fst S t m D v f p d q g) (y : Fst S t m D v f p' d' q' g') (h1 : S 1 ≤ 14) (hm : m ≤ 5) : p = p' ∧ d = d' ∧ q = q' ∧ g = g' := by
  have a := x.2.2 _ _ _ _ y.1 y.2.1
  have b := y.2.2 _ _ _ _ x.1 x.2.1
  have r1 := Lbl_rg x.1
  have r2 := Lbl_rg y.1
  obtain ⟨rfl, rfl, rfl⟩ := lab_inj (Int.le_antisymm a b) (by omega) (by omega) (by omega) (by omega)
  exact ⟨rfl, rfl, rfl, Lbl_det x.1 y.1⟩
theorem GrW.uniq {S : Int → Int} {t : Prop} {m : Nat} {D : (Int → Int) → Int → Prop} {v : Int} {f : Int → Int} {n : Nat} {s s' : Nat → Int → Int} {l l' : Nat → Int × Int × Int} (x : GrW S t m D v f n s l) (y : GrW S t m D v f n s' l') (h1 : S 1 ≤ 14) (hm : m ≤ 5) : ∀ i : Nat, i < n → s i = s' i ∧ l i = l' i ∧ s (i + 1) = s' (i + 1) := by
  intro i
  induction i with
  | zero =>
    intro hi
    have e : s 0 = s' 0 := by rw [x.1, y.1]
    have a := x.2 0 hi
    have b := y.2 0 hi
    rw [← e] at b
    obtain ⟨c1, c2, c3, c4⟩ := a.uniq b h1 hm
    exact ⟨e, Prod.ext c1 (Prod.ext c2 c3), c4⟩
  | succ i ih =>
    intro hi
    have e := (ih (by omega)).2.2
    have a := x.2 (i + 1) hi
    have b := y.2 (i + 1) hi
    rw [← e] at b
    obtain ⟨c1, c2, c3, c4⟩ := a.uniq b h1 hm
    exact ⟨e, Prod.ext c1 (Prod.ext c2 c3), c4⟩
def cmp3 (w : Int) (t : Int × Int × Int) : Int := if w = 0 then t.1 else if w = 1 then t.2.1 else t.2.2
-- OutwardDoorsModel.passing(III)I at 0
set_option maxRecDepth 20000 in
set_option maxHeartbeats 4000000 in
theorem r266_0 {X : Cst} {d : Nat} {x1 : Int} {x2 : Int} {x3 : Int} {h : AH} {Q : Post} (C_h : Lay h) (hd : 2 ≤ d)
  (w : (WF 999 (aI h 266)) ∧ (-2147483648 ≤ x1 ∧ x1 < 2147483648) ∧ ((¬ (0 < aI h 266 0 ∧ 0 ≤ x1 ∧ x1 < 2 ^ (aI h 266 2).toNat) → Q (some (.int (J (-3)))) h) ∧ ((0 < aI h 266 0 ∧ 0 ≤ x1 ∧ x1 < 2 ^ (aI h 266 2).toNat) → (-2147483648 ≤ x2 ∧ x2 < 2147483648) ∧ ((x2 < 0 → Q (some (.int (J (-3)))) h) ∧ (¬ x2 < 0 → (-2147483648 ≤ x3 ∧ x3 < 2147483648) ∧ (((0 ≤ x3 ∧ x3 ≤ 2) → Ex X PG d 256 0 [some (.ref 256), some (.int (J x1)), some (.int (J (aI h 266 2))), some (.int (J (-1))), none] [] h (fun v18 h19 => v18 = none ∧ SH h h19 ∧ (WF 999 (aI h19 266)) ∧ (0 < aI h19 266 0) ∧ (0 ≤ enc (aI h19 266 0) (aI h19 266 2).toNat (nowF (aI h19 266)) ∧ enc (aI h19 266 0) (aI h19 266 2).toNat (nowF (aI h19 266)) < 32768) ∧ ((x2 < aI h19 272 (enc (aI h19 266 0) (aI h19 266 2).toNat (nowF (aI h19 266))) → Ex X PG (d + 1) 266 62 [some (.ref 256), some (.int (J x1)), some (.int (J x2)), some (.int (J x3)), some (.int (J (enc (aI h19 266 0) (aI h19 266 2).toNat (nowF (aI h19 266))))), some (.int (J 0))] [] h19 Q) ∧ (¬ x2 < aI h19 272 (enc (aI h19 266 0) (aI h19 266 2).toNat (nowF (aI h19 266))) → Q (some (.int (J (-2)))) h19)))) ∧ (¬ (0 ≤ x3 ∧ x3 ≤ 2) → Q (some (.int (J (-3)))) h))))))) :
    Ex X PG (d + 1) 266 0 [some (.ref 256), some (.int (J x1)), some (.int (J x2)), some (.int (J x3)), none, none] [] h Q := by
  refine wpx_ok (cut := [62]) 31 d 266 0 _ _ _ _ ?_
  show hs h 256 = (0, 11) ∧ Ex X PG d 255 0 [some (.ref 256), some (.int (J x1))] [] h (fun v1 h2 => ∃ r3, v1 = some (.int r3) ∧ ((r3 = (J 0) → Q (some (.int (J (-3)))) h2) ∧ (¬ (r3 = (J 0)) → (((J x2) < (J 0) → Q (some (.int (J (-3)))) h2) ∧ (¬ ((J x2) < (J 0)) → Ex X PG d 186 0 [some (.long (Int32.toInt64 (J x3))), none, some (.long (0 : Int64)), none, some (.long (2 : Int64)), none] [] h2 (fun v11 h12 => ∃ r13, v11 = some (.int r13) ∧ ((¬ r13 = (J 0) → hs h12 256 = (0, 11) ∧ ∃ q17, hR h12 256 20 = some q17 ∧ (hs h12 q17).1 = 1 ∧ ix (J 2) (hs h12 q17).2 ∧ hs h12 256 = (0, 11) ∧ Ex X PG d 256 0 [some (.ref 256), some (.int (J x1)), some (.int (hI h12 q17 (Int32.toNatClampNeg (J 2)))), some (.int (J (-1))), none] [] h12 (fun v18 h19 => v18 = none ∧ hs h19 256 = (0, 11) ∧ Ex X PG d 265 0 [some (.ref 256), none, none] [] h19 (fun v20 h21 => ∃ r22, v20 = some (.int r22) ∧ hs h21 256 = (0, 11) ∧ ∃ q25, hR h21 256 29 = some q25 ∧ (hs h21 q25).1 = 1 ∧ ix r22 (hs h21 q25).2 ∧ (((J x2) < (hI h21 q25 (Int32.toNatClampNeg r22)) → Ex X PG (d + 1) 266 62 [some (.ref 256), some (.int (J x1)), some (.int (J x2)), some (.int (J x3)), some (.int r22), some (.int (J 0))] [] h21 Q) ∧ (¬ ((J x2) < (hI h21 q25 (Int32.toNatClampNeg r22))) → Q (some (.int (J (-2)))) h21))))) ∧ (¬ (¬ r13 = (J 0)) → Q (some (.int (J (-3)))) h12))))))))
  try simp only [aI_wAL, fI_wAL, aL_wA, aL_wF, aI_wA_ne, aI_wF_ne, fI_wA_ne, fI_wF_ne, fI_wF_nk, aL_wAL_ne, J_sameA, J_sameF, aL_same, Nat.add_left_cancel_iff, Nat.add_eq_left, Nat.left_eq_add, not_false_eq_true, Nat.reduceEqDiff, Nat.reduceAdd, J_add, J_sub, J_mul, J_neg, J_and, J_or, J_xor, J_shl, J_shr, J_div, J_i2b, J_i2l, J_l2i, J_lcm, J_max, J_min, J_nab, J_nao, rdA, rdF, rdL, wA_fold, wF_fold, wL_fold, wC_fold]
  refine ⟨(ls256 C_h), ?_⟩
  obtain ⟨k4, w⟩ := w
  obtain ⟨k5, w⟩ := w
  refine m255 (h := h) (s := x1) C_h (by omega) k4 k5 ?_
  refine ⟨_, rfl, ?_⟩
  try simp only [aI_wAL, fI_wAL, aL_wA, aL_wF, aI_wA_ne, aI_wF_ne, fI_wA_ne, fI_wF_ne, fI_wF_nk, aL_wAL_ne, J_sameA, J_sameF, aL_same, Nat.add_left_cancel_iff, Nat.add_eq_left, Nat.left_eq_add, not_false_eq_true, Nat.reduceEqDiff, Nat.reduceAdd, J_add, J_sub, J_mul, J_neg, J_and, J_or, J_xor, J_shl, J_shr, J_div, J_i2b, J_i2l, J_l2i, J_lcm, J_max, J_min, J_nab, J_nao, rdA, rdF, rdL, wA_fold, wF_fold, wL_fold, wC_fold]
  refine ⟨fun c6 => ?_, fun c6 => ?_⟩
  · have t7 : ¬ (0 < aI h 266 0 ∧ 0 ≤ x1 ∧ x1 < 2 ^ (aI h 266 2).toNat) := ((bI0 _).mp c6)
    replace w := w.1 t7
    exact w
  · have t7 : (0 < aI h 266 0 ∧ 0 ≤ x1 ∧ x1 < 2 ^ (aI h 266 2).toNat) := (Classical.byContradiction fun n => c6 ((bI0 _).mpr n))
    replace w := w.2 t7
    obtain ⟨k10, w⟩ := w
    refine ⟨fun c8 => ?_, fun c8 => ?_⟩
    · have t9 : x2 < 0 := ((Jlt k10 (by decide)).mp c8)
      replace w := w.1 t9
      exact w
    · have t9 : ¬ x2 < 0 := (fun e => c8 ((Jlt k10 (by decide)).mpr e))
      replace w := w.2 t9
      obtain ⟨k14, w⟩ := w
      refine m186 (h := h) (v := x3) (lo := 0) (hi := 2) C_h (by omega) k14 (by decide) (by decide) ?_
      refine ⟨_, rfl, ?_⟩
      try simp only [aI_wAL, fI_wAL, aL_wA, aL_wF, aI_wA_ne, aI_wF_ne, fI_wA_ne, fI_wF_ne, fI_wF_nk, aL_wAL_ne, J_sameA, J_sameF, aL_same, Nat.add_left_cancel_iff, Nat.add_eq_left, Nat.left_eq_add, not_false_eq_true, Nat.reduceEqDiff, Nat.reduceAdd, J_add, J_sub, J_mul, J_neg, J_and, J_or, J_xor, J_shl, J_shr, J_div, J_i2b, J_i2l, J_l2i, J_lcm, J_max, J_min, J_nab, J_nao, rdA, rdF, rdL, wA_fold, wF_fold, wL_fold, wC_fold]
      refine ⟨fun c15 => ?_, fun c15 => ?_⟩
      · have t16 : (0 ≤ x3 ∧ x3 ≤ 2) := (Classical.byContradiction fun n => c15 ((bI0 _).mpr n))
        replace w := w.1 t16
        refine ⟨(ls256 C_h), _, (lr256_20 C_h), ?_⟩
        refine ⟨congrArg Prod.fst (ls266 C_h), ixs (ls266 C_h) (by decide) (by decide), ?_⟩
        refine ⟨(ls256 C_h), ?_⟩
        refine Ex.mono w (Nat.le_refl _) ?_
        rintro v18 h19 ⟨rfl, s29, w⟩
        refine ⟨rfl, ?_⟩
        have C_h19 := Lay_SH s29 C_h
        try simp only [aI_wAL, fI_wAL, aL_wA, aL_wF, aI_wA_ne, aI_wF_ne, fI_wA_ne, fI_wF_ne, fI_wF_nk, aL_wAL_ne, J_sameA, J_sameF, aL_same, Nat.add_left_cancel_iff, Nat.add_eq_left, Nat.left_eq_add, not_false_eq_true, Nat.reduceEqDiff, Nat.reduceAdd, J_add, J_sub, J_mul, J_neg, J_and, J_or, J_xor, J_shl, J_shr, J_div, J_i2b, J_i2l, J_l2i, J_lcm, J_max, J_min, J_nab, J_nao, rdA, rdF, rdL, wA_fold, wF_fold, wL_fold, wC_fold]
        refine ⟨(ls256 C_h19), ?_⟩
        obtain ⟨k23, w⟩ := w
        obtain ⟨k24, w⟩ := w
        refine m265 (h := h19)  C_h19 (by omega) k23 k24 ?_
        refine ⟨_, rfl, ?_⟩
        try simp only [aI_wAL, fI_wAL, aL_wA, aL_wF, aI_wA_ne, aI_wF_ne, fI_wA_ne, fI_wF_ne, fI_wF_nk, aL_wAL_ne, J_sameA, J_sameF, aL_same, Nat.add_left_cancel_iff, Nat.add_eq_left, Nat.left_eq_add, not_false_eq_true, Nat.reduceEqDiff, Nat.reduceAdd, J_add, J_sub, J_mul, J_neg, J_and, J_or, J_xor, J_shl, J_shr, J_div, J_i2b, J_i2l, J_l2i, J_lcm, J_max, J_min, J_nab, J_nao, rdA, rdF, rdL, wA_fold, wF_fold, wL_fold, wC_fold]
        refine ⟨(ls256 C_h19), _, (lr256_29 C_h19), ?_⟩
        obtain ⟨k26, w⟩ := w
        refine ⟨congrArg Prod.fst (ls272 C_h19), ixs (ls272 C_h19) k26 (by decide), ?_⟩
        refine ⟨fun c27 => ?_, fun c27 => ?_⟩
        · have t28 : x2 < aI h19 272 (enc (aI h19 266 0) (aI h19 266 2).toNat (nowF (aI h19 266))) := ((Jlt k10 (rg_toInt _)).mp c27)
          replace w := w.1 t28
          exact w
        · have t28 : ¬ x2 < aI h19 272 (enc (aI h19 266 0) (aI h19 266 2).toNat (nowF (aI h19 266))) := (fun e => c27 ((Jlt k10 (rg_toInt _)).mpr e))
          replace w := w.2 t28
          exact w
      · have t16 : ¬ (0 ≤ x3 ∧ x3 ≤ 2) := ((bI0 _).mp (Classical.byContradiction fun n => c15 n))
        replace w := w.2 t16
        exact w
-- OutwardDoorsModel.passing(III)I at 62
set_option maxRecDepth 20000 in
set_option maxHeartbeats 4000000 in
theorem r266_62 {X : Cst} {d : Nat} {x1 : Int} {x2 : Int} {x3 : Int} {x4 : Int} {x5 : Int} {h : AH} {Q : Post} (C_h : Lay h)
  (w : (-2147483648 ≤ x5 ∧ x5 < 2147483648) ∧ (-2147483648 ≤ x2 ∧ x2 < 2147483648) ∧ ((x2 < x5 → (-2147483648 ≤ x3 ∧ x3 < 2147483648) ∧ ((¬ x3 = 0 → ((¬ x3 = 1 → Q (some (.int (J (fI h 256 35)))) h) ∧ (x3 = 1 → Q (some (.int (J (fI h 256 34)))) h))) ∧ (x3 = 0 → Q (some (.int (J (fI h 256 33)))) h))) ∧ (¬ x2 < x5 → Ex X PG d 267 0 [some (.ref 256), some (.int (J x4)), none, none, none, none, none] [] h (fun v10 h11 => ∃ r12 : Int, (-2147483648 ≤ r12 ∧ r12 < 2147483648) ∧ v10 = some (.int (J r12)) ∧ SH h h11 ∧ Ex X PG (d + 1) 266 62 [some (.ref 256), some (.int (J x1)), some (.int (J x2)), some (.int (J x3)), some (.int (J r12)), some (.int (J (x5 + 1)))] [] h11 Q)))) :
    Ex X PG (d + 1) 266 62 [some (.ref 256), some (.int (J x1)), some (.int (J x2)), some (.int (J x3)), some (.int (J x4)), some (.int (J x5))] [] h Q := by
  refine wpx_ok (cut := [62]) 12 d 266 62 _ _ _ _ ?_
  show (((J x2) < (J x5) → ((¬ (J x3) = (J 0) → ((¬ (J x3) = (J 1) → hs h 256 = (0, 11) ∧ Q (some (.int (hF h 256 35))) h) ∧ (¬ (¬ (J x3) = (J 1)) → hs h 256 = (0, 11) ∧ Q (some (.int (hF h 256 34))) h))) ∧ (¬ (¬ (J x3) = (J 0)) → hs h 256 = (0, 11) ∧ Q (some (.int (hF h 256 33))) h))) ∧ (¬ ((J x2) < (J x5)) → hs h 256 = (0, 11) ∧ Ex X PG d 267 0 [some (.ref 256), some (.int (J x4)), none, none, none, none, none] [] h (fun v10 h11 => ∃ r12, v10 = some (.int r12) ∧ Ex X PG (d + 1) 266 62 [some (.ref 256), some (.int (J x1)), some (.int (J x2)), some (.int (J x3)), some (.int r12), some (.int ((J x5) + (J 1)))] [] h11 Q)))
  try simp only [aI_wAL, fI_wAL, aL_wA, aL_wF, aI_wA_ne, aI_wF_ne, fI_wA_ne, fI_wF_ne, fI_wF_nk, aL_wAL_ne, J_sameA, J_sameF, aL_same, Nat.add_left_cancel_iff, Nat.add_eq_left, Nat.left_eq_add, not_false_eq_true, Nat.reduceEqDiff, Nat.reduceAdd, J_add, J_sub, J_mul, J_neg, J_and, J_or, J_xor, J_shl, J_shr, J_div, J_i2b, J_i2l, J_l2i, J_lcm, J_max, J_min, J_nab, J_nao, rdA, rdF, rdL, wA_fold, wF_fold, wL_fold, wC_fold]
  obtain ⟨k3, w⟩ := w
  obtain ⟨k4, w⟩ := w
  refine ⟨fun c1 => ?_, fun c1 => ?_⟩
  · have t2 : x2 < x5 := ((Jlt k4 k3).mp c1)
    replace w := w.1 t2
    obtain ⟨k7, w⟩ := w
    refine ⟨fun c5 => ?_, fun c5 => ?_⟩
    · have t6 : ¬ x3 = 0 := (fun e => c5 ((Jeq k7 (by decide)).mpr e))
      replace w := w.1 t6
      refine ⟨fun c8 => ?_, fun c8 => ?_⟩
      · have t9 : ¬ x3 = 1 := (fun e => c8 ((Jeq k7 (by decide)).mpr e))
        replace w := w.1 t9
        refine ⟨(ls256 C_h), ?_⟩
        exact w
      · have t9 : x3 = 1 := ((Jeq k7 (by decide)).mp (Classical.byContradiction c8))
        replace w := w.2 t9
        refine ⟨(ls256 C_h), ?_⟩
        exact w
    · have t6 : x3 = 0 := ((Jeq k7 (by decide)).mp (Classical.byContradiction c5))
      replace w := w.2 t6
      refine ⟨(ls256 C_h), ?_⟩
      exact w
  · have t2 : ¬ x2 < x5 := (fun e => c1 ((Jlt k4 k3).mpr e))
    replace w := w.2 t2
    refine ⟨(ls256 C_h), ?_⟩
    refine Ex.mono w (Nat.le_refl _) ?_
    rintro v10 h11 ⟨r12, gr12, rfl, s13, w⟩
    refine ⟨_, rfl, ?_⟩
    have C_h11 := Lay_SH s13 C_h
    try simp only [aI_wAL, fI_wAL, aL_wA, aL_wF, aI_wA_ne, aI_wF_ne, fI_wA_ne, fI_wF_ne, fI_wF_nk, aL_wAL_ne, J_sameA, J_sameF, aL_same, Nat.add_left_cancel_iff, Nat.add_eq_left, Nat.left_eq_add, not_false_eq_true, Nat.reduceEqDiff, Nat.reduceAdd, J_add, J_sub, J_mul, J_neg, J_and, J_or, J_xor, J_shl, J_shr, J_div, J_i2b, J_i2l, J_l2i, J_lcm, J_max, J_min, J_nab, J_nao, rdA, rdF, rdL, wA_fold, wF_fold, wL_fold, wC_fold]
    exact w
theorem m266 {X : Cst} {d : Nat} {s n w M : Int} {S : Int → Int} {h : AH} {Q : Post} (C : Lay h) (hd : 8 ≤ d) (eS : aI h 266 = S) (W : WF M S) (hM : M ≤ 999) (g1 : -2147483648 ≤ s ∧ s < 2147483648) (g2 : -2147483648 ≤ n ∧ n < 2147483648) (g3 : -2147483648 ≤ w ∧ w < 2147483648)
    (k0 : ¬ (setP S s ∧ 0 ≤ n ∧ (0 ≤ w ∧ w ≤ 2)) → Q (some (.int (J (-3)))) h)
    (k1 : (setP S s ∧ 0 ≤ n ∧ (0 ≤ w ∧ w ≤ 2)) → ∀ h' v, Fr TR h h' → IsD (Edg S (nightP S) (S 2).toNat (-1)) (atG S s) (nowF S) v → v ≤ n → Q (some (.int (J (-2)))) h')
    (k : (setP S s ∧ 0 ≤ n ∧ (0 ≤ w ∧ w ≤ 2)) → ∀ h' v r l, Fr TR h h' → IsD (Edg S (nightP S) (S 2).toNat (-1)) (atG S s) (nowF S) v → n < v → GrW S (nightP S) (S 2).toNat (IsD (Edg S (nightP S) (S 2).toNat (-1)) (atG S s)) v (nowF S) (n.toNat + 1) r l → Q (some (.int (J (cmp3 w (l n.toNat))))) h') : Ex X PG d 266 0 [some (.ref 256), some (.int (J s)), some (.int (J n)), some (.int (J w)), none, none] [] h Q := by
  obtain ⟨d, rfl⟩ : ∃ e, d = e + 1 := ⟨d - 1, by omega⟩
  have b := W.1
  unfold WFb at b
  have W9 : WF 999 S := W.up hM
  have t4 := two_4 (n := S 2) (by omega)
  refine r266_0 C (by omega) ?_
  rw [eS]
  refine ⟨W9, g1, fun c => k0 (fun z => c z.1), fun c => ⟨g2, fun c1 => k0 (fun z => absurd z.2.1 (by omega)), fun c1 => ⟨g3, fun c2 => ?_, fun c2 => k0 (fun z => c2 z.2.2)⟩⟩⟩
  have hc : setP S s ∧ 0 ≤ n ∧ (0 ≤ w ∧ w ≤ 2) := ⟨c, by omega, c2⟩
  refine m256 C (by omega) eS W hM c.1 (by omega) (by omega) (by decide) (fun h2 F2 r2 => ⟨rfl, F2.1, ?_⟩)
  have F2' : Fr TR h h2 := F2.mo fun c k z => TB2_R z
  have e2 : aI h2 266 = S := by rw [F2.a 266 (fun k z => by unfold TB2 TB at z; omega)]; exact eS
  have kn := nowF_K W
  have eb := enc_b c.1 _ _ kn.1
  have pw := pw_32k c.1 b.2.1 (m := (S 2).toNat) (by omega)
  rw [e2]
  have D := r2 _ kn
  refine ⟨W9, c.1, by omega, fun c3 => ?_, fun c3 => k1 hc h2 _ F2' D (by omega)⟩
  have vr := aI_rg h2 272 (enc (S 0) (S 2).toNat (nowF S))
  generalize hv : aI h2 272 (enc (S 0) (S 2).toNat (nowF S)) = v at *
  have lp : ∀ (z i : Nat) (h' : AH) (r : Nat → Int → Int) (l : Nat → Int × Int × Int), n + 1 = z + i → Fr TR h h' → aI h' 272 = aI h2 272 → Kf (S 2).toNat (S 0) (r i) → aI h2 272 (enc (S 0) (S 2).toNat (r i)) = v - i → GrW S (nightP S) (S 2).toNat (IsD (Edg S (nightP S) (S 2).toNat (-1)) (atG S s)) v (nowF S) i r l → (0 < i → fI h' 256 33 = (l (i - 1)).1 ∧ fI h' 256 34 = (l (i - 1)).2.1 ∧ fI h' 256 35 = (l (i - 1)).2.2) → Ex X PG (d + 1) 266 62 [some (.ref 256), some (.int (J s)), some (.int (J n)), some (.int (J w)), some (.int (J (enc (S 0) (S 2).toNat (r i)))), some (.int (J (i : Int)))] [] h' Q := by
    intro z
    induction z with
    | zero =>
      intro i h' r l e F ea kr ev gr fl
      have ei : i = n.toNat + 1 := by omega
      subst ei
      have f := fl (by omega)
      rw [Nat.add_sub_cancel] at f
      have q := k hc h' v r l F D c3 gr
      unfold cmp3 at q
      refine r266_62 (F.C C) ⟨by omega, by omega, fun _ => ⟨g3, fun c4 => ⟨fun c5 => ?_, fun c5 => ?_⟩, fun c4 => ?_⟩, fun y => absurd (by omega) y⟩
      · rw [if_neg c4, if_neg c5] at q; rw [f.2.2]; exact q
      · rw [if_neg c4, if_pos c5] at q; rw [f.2.1]; exact q
      · rw [if_pos c4] at q; rw [f.1]; exact q
    | succ z ih =>
      intro i h' r l e F ea kr ev gr fl
      refine r266_62 (F.C C) ⟨by omega, by omega, fun y => absurd y (by omega), fun _ => ?_⟩
      have e6 : aI h' 266 = S := by rw [F.a 266 (fun k z => by unfold TR at z; omega)]; exact eS
      refine m267 (v := v - i) (G := atG S s) (F.C C) (by omega) e6 W hM c.1 kr rfl (fun f kf => by rw [ea]; exact r2 f kf) (by rw [ea]; exact ev) (by omega) (fun h11 p d' q g F11 fs f1 f2 f3 => ?_)
      have kg := Lbl_K W fs.1 kr
      have ebg := enc_b c.1 _ _ kg.1
      refine ⟨_, by omega, rfl, F11.1, ?_⟩
      have := ih (i + 1) h11 (fun j => if j = i + 1 then g else r j) (fun j => if j = i then (p, d', q) else l j) (by omega) (F.tr (F11.mo fun c k z => by unfold TR; omega)) (by rw [F11.a 272 (fun k z => by omega)]; exact ea) ?_ ?_ ⟨?_, fun j hj => ?_⟩ (fun _ => ?_)
      · rw [if_pos rfl] at this; exact this
      · rw [if_pos rfl]; exact kg
      · rw [if_pos rfl]
        have := (r2 g kg).uniq fs.2.1
        omega
      · dsimp only; rw [if_neg (by omega)]; exact gr.1
      · by_cases y : j = i
        · subst y
          dsimp only
          rw [if_pos rfl, if_pos rfl, if_neg (by omega)]
          exact fs
        · dsimp only
          rw [if_neg y, if_neg (by omega), if_neg (by omega)]
          exact gr.2 j (by omega)
      · rw [Nat.add_sub_cancel, if_pos rfl]
        exact ⟨f1, f2, f3⟩
  exact lp (n + 1).toNat 0 h2 (fun _ => nowF S) (fun _ => (0, 0, 0)) (by omega) F2' rfl kn (by rw [hv]; omega) ⟨rfl, fun i hi => absurd hi (by omega)⟩ (fun z => absurd z (by omega))
