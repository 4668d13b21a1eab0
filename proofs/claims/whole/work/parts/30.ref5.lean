/-! THE REFERENCE: doors between, first door out, askers. -/
def dbtP (S : Int → Int) (a b d : Int) : Prop := d < S 1 ∧ ((nr S d = a ∧ fr S d = b) ∨ (nr S d = b ∧ fr S d = a))
noncomputable def dbt (S : Int → Int) (a b : Int) : Int := lst (dbtP S a b)
def fouP (S : Int → Int) (t : Prop) (r d : Int) : Prop := d < S 1 ∧ opn S t d ∧ nr S d = r
noncomputable def fou (S : Int → Int) (t : Prop) (r : Int) : Int := lst (fouP S t r)
theorem lst_b {P : Int → Prop} {n : Int} (hn : 0 ≤ n) (h : ∀ v, P v → v < n) : -1 ≤ lst P ∧ lst P < n := by
  by_cases e : ∃ v, 0 ≤ v ∧ P v ∧ ∀ u, 0 ≤ u → P u → v ≤ u
  · obtain ⟨v, x, y, z⟩ := e
    rw [lst_eq x y z]
    have := h v y
    omega
  · unfold lst
    rw [dif_neg e]
    omega
/-- what lst finds: nothing, or one with P -/
theorem lst_or (P : Int → Prop) : lst P = -1 ∨ 0 ≤ lst P ∧ P (lst P) := by
  by_cases e : ∃ v, 0 ≤ v ∧ P v ∧ ∀ u, 0 ≤ u → P u → v ≤ u
  · obtain ⟨v, x, y, z⟩ := e
    rw [lst_eq x y z]
    exact Or.inr ⟨x, y⟩
  · unfold lst
    rw [dif_neg e]
    exact Or.inl rfl
-- OutwardDoorsModel.doorBetween(II)I at 0
set_option maxRecDepth 20000 in
set_option maxHeartbeats 4000000 in
theorem r244_0 {X : Cst} {d : Nat} {x1 : Int} {x2 : Int} {h : AH} {Q : Post} (C_h : Lay h)
  (w : Ex X PG (d + 1) 244 2 [some (.ref 256), some (.int (J x1)), some (.int (J x2)), some (.int (J 0))] [] h Q) :
    Ex X PG (d + 1) 244 0 [some (.ref 256), some (.int (J x1)), some (.int (J x2)), none] [] h Q := by
  refine wpx_ok (cut := [2]) 2 d 244 0 _ _ _ _ ?_
  show Ex X PG (d + 1) 244 2 [some (.ref 256), some (.int (J x1)), some (.int (J x2)), some (.int (J 0))] [] h Q
  try simp only [aI_wAL, fI_wAL, aL_wA, aL_wF, aI_wA_ne, aI_wF_ne, fI_wA_ne, fI_wF_ne, fI_wF_nk, aL_wAL_ne, J_sameA, J_sameF, aL_same, Nat.add_left_cancel_iff, Nat.add_eq_left, Nat.left_eq_add, not_false_eq_true, Nat.reduceEqDiff, Nat.reduceAdd, J_add, J_sub, J_mul, J_neg, J_and, J_or, J_xor, J_shl, J_shr, J_div, J_i2b, J_i2l, J_l2i, J_lcm, J_max, J_min, J_nab, J_nao, rdA, rdF, rdL, wA_fold, wF_fold, wL_fold, wC_fold]
  exact w
-- OutwardDoorsModel.doorBetween(II)I at 2
set_option maxRecDepth 20000 in
set_option maxHeartbeats 4000000 in
theorem r244_2 {X : Cst} {d : Nat} {x1 : Int} {x2 : Int} {x3 : Int} {h : AH} {Q : Post} (C_h : Lay h) (hd : 1 ≤ d)
  (w : (-2147483648 ≤ x3 ∧ x3 < 2147483648) ∧ ((aI h 266 1 ≤ x3 → Q (some (.int (J (-1)))) h) ∧ (¬ aI h 266 1 ≤ x3 → (0 ≤ x3 ∧ x3 < 14) ∧ (-2147483648 ≤ x1 ∧ x1 < 2147483648) ∧ ((¬ nr (aI h 266) x3 = x1 → (-2147483648 ≤ x2 ∧ x2 < 2147483648) ∧ ((¬ nr (aI h 266) x3 = x2 → Ex X PG (d + 1) 244 2 [some (.ref 256), some (.int (J x1)), some (.int (J x2)), some (.int (J (x3 + 1)))] [] h Q) ∧ (nr (aI h 266) x3 = x2 → ((¬ fr (aI h 266) x3 = x1 → Ex X PG (d + 1) 244 2 [some (.ref 256), some (.int (J x1)), some (.int (J x2)), some (.int (J (x3 + 1)))] [] h Q) ∧ (fr (aI h 266) x3 = x1 → Q (some (.int (J x3))) h))))) ∧ (nr (aI h 266) x3 = x1 → (-2147483648 ≤ x2 ∧ x2 < 2147483648) ∧ ((fr (aI h 266) x3 = x2 → Q (some (.int (J x3))) h) ∧ (¬ fr (aI h 266) x3 = x2 → ((¬ nr (aI h 266) x3 = x2 → Ex X PG (d + 1) 244 2 [some (.ref 256), some (.int (J x1)), some (.int (J x2)), some (.int (J (x3 + 1)))] [] h Q) ∧ (nr (aI h 266) x3 = x2 → ((¬ fr (aI h 266) x3 = x1 → Ex X PG (d + 1) 244 2 [some (.ref 256), some (.int (J x1)), some (.int (J x2)), some (.int (J (x3 + 1)))] [] h Q) ∧ (fr (aI h 266) x3 = x1 → Q (some (.int (J x3))) h))))))))))) :
    Ex X PG (d + 1) 244 2 [some (.ref 256), some (.int (J x1)), some (.int (J x2)), some (.int (J x3))] [] h Q := by
  refine wpx_ok (cut := [2]) 28 d 244 2 _ _ _ _ ?_
  show hs h 256 = (0, 11) ∧ ∃ q1, hR h 256 20 = some q1 ∧ (hs h q1).1 = 1 ∧ ix (J 1) (hs h q1).2 ∧ (((hI h q1 (Int32.toNatClampNeg (J 1))) ≤ (J x3) → Q (some (.int (J (-1)))) h) ∧ (¬ ((hI h q1 (Int32.toNatClampNeg (J 1))) ≤ (J x3)) → hs h 256 = (0, 11) ∧ Ex X PG d 218 0 [some (.ref 256), some (.int (J x3))] [] h (fun v5 h6 => ∃ r7, v5 = some (.int r7) ∧ ((¬ r7 = (J x1) → hs h6 256 = (0, 11) ∧ Ex X PG d 218 0 [some (.ref 256), some (.int (J x3))] [] h6 (fun v12 h13 => ∃ r14, v12 = some (.int r14) ∧ ((¬ r14 = (J x2) → Ex X PG (d + 1) 244 2 [some (.ref 256), some (.int (J x1)), some (.int (J x2)), some (.int ((J x3) + (J 1)))] [] h13 Q) ∧ (¬ (¬ r14 = (J x2)) → hs h13 256 = (0, 11) ∧ Ex X PG d 219 0 [some (.ref 256), some (.int (J x3))] [] h13 (fun v18 h19 => ∃ r20, v18 = some (.int r20) ∧ ((¬ r20 = (J x1) → Ex X PG (d + 1) 244 2 [some (.ref 256), some (.int (J x1)), some (.int (J x2)), some (.int ((J x3) + (J 1)))] [] h19 Q) ∧ (¬ (¬ r20 = (J x1)) → Q (some (.int (J x3))) h19))))))) ∧ (¬ (¬ r7 = (J x1)) → hs h6 256 = (0, 11) ∧ Ex X PG d 219 0 [some (.ref 256), some (.int (J x3))] [] h6 (fun v23 h24 => ∃ r25, v23 = some (.int r25) ∧ ((r25 = (J x2) → Q (some (.int (J x3))) h24) ∧ (¬ (r25 = (J x2)) → hs h24 256 = (0, 11) ∧ Ex X PG d 218 0 [some (.ref 256), some (.int (J x3))] [] h24 (fun v29 h30 => ∃ r31, v29 = some (.int r31) ∧ ((¬ r31 = (J x2) → Ex X PG (d + 1) 244 2 [some (.ref 256), some (.int (J x1)), some (.int (J x2)), some (.int ((J x3) + (J 1)))] [] h30 Q) ∧ (¬ (¬ r31 = (J x2)) → hs h30 256 = (0, 11) ∧ Ex X PG d 219 0 [some (.ref 256), some (.int (J x3))] [] h30 (fun v34 h35 => ∃ r36, v34 = some (.int r36) ∧ ((¬ r36 = (J x1) → Ex X PG (d + 1) 244 2 [some (.ref 256), some (.int (J x1)), some (.int (J x2)), some (.int ((J x3) + (J 1)))] [] h35 Q) ∧ (¬ (¬ r36 = (J x1)) → Q (some (.int (J x3))) h35))))))))))))))
  try simp only [aI_wAL, fI_wAL, aL_wA, aL_wF, aI_wA_ne, aI_wF_ne, fI_wA_ne, fI_wF_ne, fI_wF_nk, aL_wAL_ne, J_sameA, J_sameF, aL_same, Nat.add_left_cancel_iff, Nat.add_eq_left, Nat.left_eq_add, not_false_eq_true, Nat.reduceEqDiff, Nat.reduceAdd, J_add, J_sub, J_mul, J_neg, J_and, J_or, J_xor, J_shl, J_shr, J_div, J_i2b, J_i2l, J_l2i, J_lcm, J_max, J_min, J_nab, J_nao, rdA, rdF, rdL, wA_fold, wF_fold, wL_fold, wC_fold]
  refine ⟨(ls256 C_h), _, (lr256_20 C_h), ?_⟩
  refine ⟨congrArg Prod.fst (ls266 C_h), ixs (ls266 C_h) (by decide) (by decide), ?_⟩
  obtain ⟨k4, w⟩ := w
  refine ⟨fun c2 => ?_, fun c2 => ?_⟩
  · have t3 : aI h 266 1 ≤ x3 := ((Jle (rg_toInt _) k4).mp c2)
    replace w := w.1 t3
    exact w
  · have t3 : ¬ aI h 266 1 ≤ x3 := (fun e => c2 ((Jle (rg_toInt _) k4).mpr e))
    replace w := w.2 t3
    refine ⟨(ls256 C_h), ?_⟩
    obtain ⟨k8, w⟩ := w
    refine m218 (h := h) (x := x3) C_h (by omega) k8 ?_
    refine ⟨_, rfl, ?_⟩
    try simp only [aI_wAL, fI_wAL, aL_wA, aL_wF, aI_wA_ne, aI_wF_ne, fI_wA_ne, fI_wF_ne, fI_wF_nk, aL_wAL_ne, J_sameA, J_sameF, aL_same, Nat.add_left_cancel_iff, Nat.add_eq_left, Nat.left_eq_add, not_false_eq_true, Nat.reduceEqDiff, Nat.reduceAdd, J_add, J_sub, J_mul, J_neg, J_and, J_or, J_xor, J_shl, J_shr, J_div, J_i2b, J_i2l, J_l2i, J_lcm, J_max, J_min, J_nab, J_nao, rdA, rdF, rdL, wA_fold, wF_fold, wL_fold, wC_fold]
    obtain ⟨k11, w⟩ := w
    refine ⟨fun c9 => ?_, fun c9 => ?_⟩
    · have t10 : ¬ nr (aI h 266) x3 = x1 := (fun e => c9 ((Jeq (aI_rg _ _ _) k11).mpr e))
      replace w := w.1 t10
      refine ⟨(ls256 C_h), ?_⟩
      refine m218 (h := h) (x := x3) C_h (by omega) k8 ?_
      refine ⟨_, rfl, ?_⟩
      try simp only [aI_wAL, fI_wAL, aL_wA, aL_wF, aI_wA_ne, aI_wF_ne, fI_wA_ne, fI_wF_ne, fI_wF_nk, aL_wAL_ne, J_sameA, J_sameF, aL_same, Nat.add_left_cancel_iff, Nat.add_eq_left, Nat.left_eq_add, not_false_eq_true, Nat.reduceEqDiff, Nat.reduceAdd, J_add, J_sub, J_mul, J_neg, J_and, J_or, J_xor, J_shl, J_shr, J_div, J_i2b, J_i2l, J_l2i, J_lcm, J_max, J_min, J_nab, J_nao, rdA, rdF, rdL, wA_fold, wF_fold, wL_fold, wC_fold]
      obtain ⟨k17, w⟩ := w
      refine ⟨fun c15 => ?_, fun c15 => ?_⟩
      · have t16 : ¬ nr (aI h 266) x3 = x2 := (fun e => c15 ((Jeq (aI_rg _ _ _) k17).mpr e))
        replace w := w.1 t16
        exact w
      · have t16 : nr (aI h 266) x3 = x2 := ((Jeq (aI_rg _ _ _) k17).mp (Classical.byContradiction c15))
        replace w := w.2 t16
        refine ⟨(ls256 C_h), ?_⟩
        refine m219 (h := h) (x := x3) C_h (by omega) k8 ?_
        refine ⟨_, rfl, ?_⟩
        try simp only [aI_wAL, fI_wAL, aL_wA, aL_wF, aI_wA_ne, aI_wF_ne, fI_wA_ne, fI_wF_ne, fI_wF_nk, aL_wAL_ne, J_sameA, J_sameF, aL_same, Nat.add_left_cancel_iff, Nat.add_eq_left, Nat.left_eq_add, not_false_eq_true, Nat.reduceEqDiff, Nat.reduceAdd, J_add, J_sub, J_mul, J_neg, J_and, J_or, J_xor, J_shl, J_shr, J_div, J_i2b, J_i2l, J_l2i, J_lcm, J_max, J_min, J_nab, J_nao, rdA, rdF, rdL, wA_fold, wF_fold, wL_fold, wC_fold]
        refine ⟨fun c21 => ?_, fun c21 => ?_⟩
        · have t22 : ¬ fr (aI h 266) x3 = x1 := (fun e => c21 ((Jeq (aI_rg _ _ _) k11).mpr e))
          replace w := w.1 t22
          exact w
        · have t22 : fr (aI h 266) x3 = x1 := ((Jeq (aI_rg _ _ _) k11).mp (Classical.byContradiction c21))
          replace w := w.2 t22
          exact w
    · have t10 : nr (aI h 266) x3 = x1 := ((Jeq (aI_rg _ _ _) k11).mp (Classical.byContradiction c9))
      replace w := w.2 t10
      refine ⟨(ls256 C_h), ?_⟩
      refine m219 (h := h) (x := x3) C_h (by omega) k8 ?_
      refine ⟨_, rfl, ?_⟩
      try simp only [aI_wAL, fI_wAL, aL_wA, aL_wF, aI_wA_ne, aI_wF_ne, fI_wA_ne, fI_wF_ne, fI_wF_nk, aL_wAL_ne, J_sameA, J_sameF, aL_same, Nat.add_left_cancel_iff, Nat.add_eq_left, Nat.left_eq_add, not_false_eq_true, Nat.reduceEqDiff, Nat.reduceAdd, J_add, J_sub, J_mul, J_neg, J_and, J_or, J_xor, J_shl, J_shr, J_div, J_i2b, J_i2l, J_l2i, J_lcm, J_max, J_min, J_nab, J_nao, rdA, rdF, rdL, wA_fold, wF_fold, wL_fold, wC_fold]
      obtain ⟨k28, w⟩ := w
      refine ⟨fun c26 => ?_, fun c26 => ?_⟩
      · have t27 : fr (aI h 266) x3 = x2 := ((Jeq (aI_rg _ _ _) k28).mp c26)
        replace w := w.1 t27
        exact w
      · have t27 : ¬ fr (aI h 266) x3 = x2 := (fun e => c26 ((Jeq (aI_rg _ _ _) k28).mpr e))
        replace w := w.2 t27
        refine ⟨(ls256 C_h), ?_⟩
        refine m218 (h := h) (x := x3) C_h (by omega) k8 ?_
        refine ⟨_, rfl, ?_⟩
        try simp only [aI_wAL, fI_wAL, aL_wA, aL_wF, aI_wA_ne, aI_wF_ne, fI_wA_ne, fI_wF_ne, fI_wF_nk, aL_wAL_ne, J_sameA, J_sameF, aL_same, Nat.add_left_cancel_iff, Nat.add_eq_left, Nat.left_eq_add, not_false_eq_true, Nat.reduceEqDiff, Nat.reduceAdd, J_add, J_sub, J_mul, J_neg, J_and, J_or, J_xor, J_shl, J_shr, J_div, J_i2b, J_i2l, J_l2i, J_lcm, J_max, J_min, J_nab, J_nao, rdA, rdF, rdL, wA_fold, wF_fold, wL_fold, wC_fold]
        refine ⟨fun c32 => ?_, fun c32 => ?_⟩
        · have t33 : ¬ nr (aI h 266) x3 = x2 := (fun e => c32 ((Jeq (aI_rg _ _ _) k28).mpr e))
          replace w := w.1 t33
          exact w
        · have t33 : nr (aI h 266) x3 = x2 := ((Jeq (aI_rg _ _ _) k28).mp (Classical.byContradiction c32))
          replace w := w.2 t33
          refine ⟨(ls256 C_h), ?_⟩
          refine m219 (h := h) (x := x3) C_h (by omega) k8 ?_
          refine ⟨_, rfl, ?_⟩
          try simp only [aI_wAL, fI_wAL, aL_wA, aL_wF, aI_wA_ne, aI_wF_ne, fI_wA_ne, fI_wF_ne, fI_wF_nk, aL_wAL_ne, J_sameA, J_sameF, aL_same, Nat.add_left_cancel_iff, Nat.add_eq_left, Nat.left_eq_add, not_false_eq_true, Nat.reduceEqDiff, Nat.reduceAdd, J_add, J_sub, J_mul, J_neg, J_and, J_or, J_xor, J_shl, J_shr, J_div, J_i2b, J_i2l, J_l2i, J_lcm, J_max, J_min, J_nab, J_nao, rdA, rdF, rdL, wA_fold, wF_fold, wL_fold, wC_fold]
          refine ⟨fun c37 => ?_, fun c37 => ?_⟩
          · have t38 : ¬ fr (aI h 266) x3 = x1 := (fun e => c37 ((Jeq (aI_rg _ _ _) k11).mpr e))
            replace w := w.1 t38
            exact w
          · have t38 : fr (aI h 266) x3 = x1 := ((Jeq (aI_rg _ _ _) k11).mp (Classical.byContradiction c37))
            replace w := w.2 t38
            exact w
theorem q244_2 {X : Cst} {d : Nat} {a b : Int} {h : AH} {Q : Post} (C : Lay h) (hd : 1 ≤ d) (W : WF 999 (aI h 266)) (ha : -2147483648 ≤ a ∧ a < 2147483648) (hb : -2147483648 ≤ b ∧ b < 2147483648) (k : Q (some (.int (J (dbt (aI h 266) a b)))) h) :
    ∀ (n : Nat) (i : Int), aI h 266 1 - i ≤ n → 0 ≤ i → i ≤ aI h 266 1 → (∀ e, 0 ≤ e → e < i → ¬ dbtP (aI h 266) a b e) → Ex X PG (d + 1) 244 2 [some (.ref 256), some (.int (J a)), some (.int (J b)), some (.int (J i))] [] h Q := by
  have bb := W.1
  unfold WFb at bb
  have fin : (∀ e, 0 ≤ e → e < aI h 266 1 → ¬ dbtP (aI h 266) a b e) → Q (some (.int (J (-1)))) h := by
    intro m
    rw [show dbt (aI h 266) a b = -1 from lst_no fun u h0 z => m u h0 z.1 z] at k
    exact k
  have hit : ∀ i, 0 ≤ i → (∀ e, 0 ≤ e → e < i → ¬ dbtP (aI h 266) a b e) → dbtP (aI h 266) a b i → Q (some (.int (J i))) h := by
    intro i h0 m z
    rw [show dbt (aI h 266) a b = i from lst_eq h0 z fun u hu y => by
      by_cases q : u < i
      · exact absurd y (m u hu q)
      · omega] at k
    exact k
  intro n
  induction n with
  | zero => intro i h1 h2 h3 m; exact r244_2 C hd ⟨by omega, fun c => fin (fun e a b => m e a (by omega)), fun c => absurd (by omega) c⟩
  | succ n ih =>
    intro i h1 h2 h3 m
    have nx : ¬ dbtP (aI h 266) a b i → i < aI h 266 1 → Ex X PG (d + 1) 244 2 [some (.ref 256), some (.int (J a)), some (.int (J b)), some (.int (J (i + 1)))] [] h Q := fun z l => ih _ (by omega) (by omega) (by omega) (fun e h1 h2 => by
      by_cases q : e = i
      · subst q; exact z
      · exact m e h1 (by omega))
    refine r244_2 C hd ⟨by omega, fun c => fin (fun e a b => m e a (by omega)), fun c => ⟨by omega, ha, fun c2 => ⟨hb, fun c3 => ?_, fun c3 => ⟨fun c4 => ?_, fun c4 => ?_⟩⟩, fun c2 => ⟨hb, fun c3 => ?_, fun c3 => ⟨fun c4 => ?_, fun c4 => ⟨fun c5 => ?_, fun c5 => ?_⟩⟩⟩⟩⟩
    · exact nx (fun z => by rcases z.2 with z | z <;> omega) (by omega)
    · exact nx (fun z => by rcases z.2 with z | z <;> omega) (by omega)
    · exact hit i h2 m ⟨by omega, Or.inr ⟨c3, c4⟩⟩
    · exact hit i h2 m ⟨by omega, Or.inl ⟨c2, c3⟩⟩
    · exact nx (fun z => by rcases z.2 with z | z <;> omega) (by omega)
    · exact nx (fun z => by rcases z.2 with z | z <;> omega) (by omega)
    · exact hit i h2 m ⟨by omega, Or.inr ⟨c4, c5⟩⟩
theorem dbt_rg {S : Int → Int} (W : WF 999 S) (a b : Int) : -2147483648 ≤ dbt S a b ∧ dbt S a b < 2147483648 := by
  have w := W.1
  unfold WFb at w
  have := lst_b (P := dbtP S a b) (n := S 1) (by omega) (fun v z => z.1)
  unfold dbt; omega
theorem fou_rg {S : Int → Int} (W : WF 999 S) (t : Prop) (r : Int) : -2147483648 ≤ fou S t r ∧ fou S t r < 2147483648 := by
  have w := W.1
  unfold WFb at w
  have := lst_b (P := fouP S t r) (n := S 1) (by omega) (fun v z => z.1)
  unfold fou; omega
theorem m244 {X : Cst} {d : Nat} {a b : Int} {h : AH} {Q : Post} (C : Lay h) (hd : 2 ≤ d) (W : WF 999 (aI h 266)) (ha : -2147483648 ≤ a ∧ a < 2147483648) (hb : -2147483648 ≤ b ∧ b < 2147483648) (k : Q (some (.int (J (dbt (aI h 266) a b)))) h) : Ex X PG d 244 0 [some (.ref 256), some (.int (J a)), some (.int (J b)), none] [] h Q := by
  obtain ⟨d, rfl⟩ : ∃ e, d = e + 1 := ⟨d - 1, by omega⟩
  have bb := W.1
  unfold WFb at bb
  exact r244_0 C (q244_2 C (by omega) W ha hb k (aI h 266 1).toNat 0 (by omega) (by omega) (by omega) (fun e h1 h2 => by omega))
-- OutwardDoorsModel.firstOut(I)I at 0
set_option maxRecDepth 20000 in
set_option maxHeartbeats 4000000 in
theorem r243_0 {X : Cst} {d : Nat} {x1 : Int} {h : AH} {Q : Post} (C_h : Lay h)
  (w : Ex X PG (d + 1) 243 2 [some (.ref 256), some (.int (J x1)), some (.int (J 0))] [] h Q) :
    Ex X PG (d + 1) 243 0 [some (.ref 256), some (.int (J x1)), none] [] h Q := by
  refine wpx_ok (cut := [2]) 2 d 243 0 _ _ _ _ ?_
  show Ex X PG (d + 1) 243 2 [some (.ref 256), some (.int (J x1)), some (.int (J 0))] [] h Q
  try simp only [aI_wAL, fI_wAL, aL_wA, aL_wF, aI_wA_ne, aI_wF_ne, fI_wA_ne, fI_wF_ne, fI_wF_nk, aL_wAL_ne, J_sameA, J_sameF, aL_same, Nat.add_left_cancel_iff, Nat.add_eq_left, Nat.left_eq_add, not_false_eq_true, Nat.reduceEqDiff, Nat.reduceAdd, J_add, J_sub, J_mul, J_neg, J_and, J_or, J_xor, J_shl, J_shr, J_div, J_i2b, J_i2l, J_l2i, J_lcm, J_max, J_min, J_nab, J_nao, rdA, rdF, rdL, wA_fold, wF_fold, wL_fold, wC_fold]
  exact w
-- OutwardDoorsModel.firstOut(I)I at 2
set_option maxRecDepth 20000 in
set_option maxHeartbeats 4000000 in
theorem r243_2 {X : Cst} {d : Nat} {x1 : Int} {x2 : Int} {h : AH} {Q : Post} (C_h : Lay h) (hd : 2 ≤ d)
  (w : (-2147483648 ≤ x2 ∧ x2 < 2147483648) ∧ ((aI h 266 1 ≤ x2 → Q (some (.int (J (-1)))) h) ∧ (¬ aI h 266 1 ≤ x2 → (WF 999 (aI h 266)) ∧ (0 ≤ x2 ∧ x2 < aI h 266 1) ∧ ((¬ (opn (aI h 266) (nightP (aI h 266)) x2) → Ex X PG (d + 1) 243 2 [some (.ref 256), some (.int (J x1)), some (.int (J (x2 + 1)))] [] h Q) ∧ ((opn (aI h 266) (nightP (aI h 266)) x2) → (0 ≤ x2 ∧ x2 < 14) ∧ (-2147483648 ≤ x1 ∧ x1 < 2147483648) ∧ ((¬ nr (aI h 266) x2 = x1 → Ex X PG (d + 1) 243 2 [some (.ref 256), some (.int (J x1)), some (.int (J (x2 + 1)))] [] h Q) ∧ (nr (aI h 266) x2 = x1 → Q (some (.int (J x2))) h))))))) :
    Ex X PG (d + 1) 243 2 [some (.ref 256), some (.int (J x1)), some (.int (J x2))] [] h Q := by
  refine wpx_ok (cut := [2]) 17 d 243 2 _ _ _ _ ?_
  show hs h 256 = (0, 11) ∧ ∃ q1, hR h 256 20 = some q1 ∧ (hs h q1).1 = 1 ∧ ix (J 1) (hs h q1).2 ∧ (((hI h q1 (Int32.toNatClampNeg (J 1))) ≤ (J x2) → Q (some (.int (J (-1)))) h) ∧ (¬ ((hI h q1 (Int32.toNatClampNeg (J 1))) ≤ (J x2)) → hs h 256 = (0, 11) ∧ Ex X PG d 217 0 [some (.ref 256), some (.int (J x2))] [] h (fun v5 h6 => ∃ r7, v5 = some (.int r7) ∧ ((r7 = (J 0) → Ex X PG (d + 1) 243 2 [some (.ref 256), some (.int (J x1)), some (.int ((J x2) + (J 1)))] [] h6 Q) ∧ (¬ (r7 = (J 0)) → hs h6 256 = (0, 11) ∧ Ex X PG d 218 0 [some (.ref 256), some (.int (J x2))] [] h6 (fun v12 h13 => ∃ r14, v12 = some (.int r14) ∧ ((¬ r14 = (J x1) → Ex X PG (d + 1) 243 2 [some (.ref 256), some (.int (J x1)), some (.int ((J x2) + (J 1)))] [] h13 Q) ∧ (¬ (¬ r14 = (J x1)) → Q (some (.int (J x2))) h13))))))))
  try simp only [aI_wAL, fI_wAL, aL_wA, aL_wF, aI_wA_ne, aI_wF_ne, fI_wA_ne, fI_wF_ne, fI_wF_nk, aL_wAL_ne, J_sameA, J_sameF, aL_same, Nat.add_left_cancel_iff, Nat.add_eq_left, Nat.left_eq_add, not_false_eq_true, Nat.reduceEqDiff, Nat.reduceAdd, J_add, J_sub, J_mul, J_neg, J_and, J_or, J_xor, J_shl, J_shr, J_div, J_i2b, J_i2l, J_l2i, J_lcm, J_max, J_min, J_nab, J_nao, rdA, rdF, rdL, wA_fold, wF_fold, wL_fold, wC_fold]
  refine ⟨(ls256 C_h), _, (lr256_20 C_h), ?_⟩
  refine ⟨congrArg Prod.fst (ls266 C_h), ixs (ls266 C_h) (by decide) (by decide), ?_⟩
  obtain ⟨k4, w⟩ := w
  refine ⟨fun c2 => ?_, fun c2 => ?_⟩
  · have t3 : aI h 266 1 ≤ x2 := ((Jle (rg_toInt _) k4).mp c2)
    replace w := w.1 t3
    exact w
  · have t3 : ¬ aI h 266 1 ≤ x2 := (fun e => c2 ((Jle (rg_toInt _) k4).mpr e))
    replace w := w.2 t3
    refine ⟨(ls256 C_h), ?_⟩
    obtain ⟨k8, w⟩ := w
    obtain ⟨k9, w⟩ := w
    refine m217 (h := h) (x := x2) C_h (by omega) k8 k9 ?_
    refine ⟨_, rfl, ?_⟩
    try simp only [aI_wAL, fI_wAL, aL_wA, aL_wF, aI_wA_ne, aI_wF_ne, fI_wA_ne, fI_wF_ne, fI_wF_nk, aL_wAL_ne, J_sameA, J_sameF, aL_same, Nat.add_left_cancel_iff, Nat.add_eq_left, Nat.left_eq_add, not_false_eq_true, Nat.reduceEqDiff, Nat.reduceAdd, J_add, J_sub, J_mul, J_neg, J_and, J_or, J_xor, J_shl, J_shr, J_div, J_i2b, J_i2l, J_l2i, J_lcm, J_max, J_min, J_nab, J_nao, rdA, rdF, rdL, wA_fold, wF_fold, wL_fold, wC_fold]
    refine ⟨fun c10 => ?_, fun c10 => ?_⟩
    · have t11 : ¬ (opn (aI h 266) (nightP (aI h 266)) x2) := ((bI0 _).mp c10)
      replace w := w.1 t11
      exact w
    · have t11 : (opn (aI h 266) (nightP (aI h 266)) x2) := (Classical.byContradiction fun n => c10 ((bI0 _).mpr n))
      replace w := w.2 t11
      refine ⟨(ls256 C_h), ?_⟩
      obtain ⟨k15, w⟩ := w
      refine m218 (h := h) (x := x2) C_h (by omega) k15 ?_
      refine ⟨_, rfl, ?_⟩
      try simp only [aI_wAL, fI_wAL, aL_wA, aL_wF, aI_wA_ne, aI_wF_ne, fI_wA_ne, fI_wF_ne, fI_wF_nk, aL_wAL_ne, J_sameA, J_sameF, aL_same, Nat.add_left_cancel_iff, Nat.add_eq_left, Nat.left_eq_add, not_false_eq_true, Nat.reduceEqDiff, Nat.reduceAdd, J_add, J_sub, J_mul, J_neg, J_and, J_or, J_xor, J_shl, J_shr, J_div, J_i2b, J_i2l, J_l2i, J_lcm, J_max, J_min, J_nab, J_nao, rdA, rdF, rdL, wA_fold, wF_fold, wL_fold, wC_fold]
      obtain ⟨k18, w⟩ := w
      refine ⟨fun c16 => ?_, fun c16 => ?_⟩
      · have t17 : ¬ nr (aI h 266) x2 = x1 := (fun e => c16 ((Jeq (aI_rg _ _ _) k18).mpr e))
        replace w := w.1 t17
        exact w
      · have t17 : nr (aI h 266) x2 = x1 := ((Jeq (aI_rg _ _ _) k18).mp (Classical.byContradiction c16))
        replace w := w.2 t17
        exact w
theorem q243_2 {X : Cst} {d : Nat} {r : Int} {h : AH} {Q : Post} (C : Lay h) (hd : 2 ≤ d) (W : WF 999 (aI h 266)) (hr : -2147483648 ≤ r ∧ r < 2147483648) (k : Q (some (.int (J (fou (aI h 266) (nightP (aI h 266)) r)))) h) :
    ∀ (n : Nat) (i : Int), aI h 266 1 - i ≤ n → 0 ≤ i → i ≤ aI h 266 1 → (∀ e, 0 ≤ e → e < i → ¬ fouP (aI h 266) (nightP (aI h 266)) r e) → Ex X PG (d + 1) 243 2 [some (.ref 256), some (.int (J r)), some (.int (J i))] [] h Q := by
  have bb := W.1
  unfold WFb at bb
  have fin : (∀ e, 0 ≤ e → e < aI h 266 1 → ¬ fouP (aI h 266) (nightP (aI h 266)) r e) → Q (some (.int (J (-1)))) h := by
    intro m
    rw [show fou (aI h 266) (nightP (aI h 266)) r = -1 from lst_no fun u h0 z => m u h0 z.1 z] at k
    exact k
  intro n
  induction n with
  | zero => intro i h1 h2 h3 m; exact r243_2 C hd ⟨by omega, fun c => fin (fun e a b => m e a (by omega)), fun c => absurd (by omega) c⟩
  | succ n ih =>
    intro i h1 h2 h3 m
    have nx : ¬ fouP (aI h 266) (nightP (aI h 266)) r i → i < aI h 266 1 → Ex X PG (d + 1) 243 2 [some (.ref 256), some (.int (J r)), some (.int (J (i + 1)))] [] h Q := fun z l => ih _ (by omega) (by omega) (by omega) (fun e h1 h2 => by
      by_cases q : e = i
      · subst q; exact z
      · exact m e h1 (by omega))
    refine r243_2 C hd ⟨by omega, fun c => fin (fun e a b => m e a (by omega)), fun c => ⟨W, by omega, fun c2 => ?_, fun c2 => ⟨by omega, hr, fun c3 => ?_, fun c3 => ?_⟩⟩⟩
    · exact nx (fun z => c2 z.2.1) (by omega)
    · exact nx (fun z => c3 z.2.2) (by omega)
    · rw [show fou (aI h 266) (nightP (aI h 266)) r = i from lst_eq h2 ⟨by omega, c2, c3⟩ fun u hu y => by
        by_cases q : u < i
        · exact absurd y (m u hu q)
        · omega] at k
      exact k
theorem m243 {X : Cst} {d : Nat} {r : Int} {h : AH} {Q : Post} (C : Lay h) (hd : 3 ≤ d) (W : WF 999 (aI h 266)) (hr : -2147483648 ≤ r ∧ r < 2147483648) (k : Q (some (.int (J (fou (aI h 266) (nightP (aI h 266)) r)))) h) : Ex X PG d 243 0 [some (.ref 256), some (.int (J r)), none] [] h Q := by
  obtain ⟨d, rfl⟩ : ∃ e, d = e + 1 := ⟨d - 1, by omega⟩
  have bb := W.1
  unfold WFb at bb
  exact r243_0 C (q243_2 C (by omega) W hr k (aI h 266 1).toNat 0 (by omega) (by omega) (by omega) (fun e h1 h2 => by omega))
def askP (S : Int → Int) (t : Prop) (p o : Int) : Prop := ¬ o = p ∧ stp S t (pS S o 0) (pS S o 1) = pS S p 0 ∧ S (34 + pS S p 0) < S (34 + pS S o 0)
noncomputable def askd (S : Int → Int) (t : Prop) (p : Int) : Int := sumN (S 2).toNat fun o => bI (askP S t p o)
theorem sumN_bI_b (P : Int → Prop) : ∀ n : Nat, 0 ≤ sumN n (fun o => bI (P o)) ∧ sumN n (fun o => bI (P o)) ≤ n := by
  intro n
  induction n with
  | zero => exact ⟨Int.le_refl _, Int.le_refl _⟩
  | succ n ih =>
    have := bI_or (P n)
    unfold sumN
    show 0 ≤ _ + bI (P n) ∧ _ + bI (P n) ≤ _
    rcases this with h | h <;> rw [h] <;> omega
-- OutwardDoorsModel.askersOf(I)I at 0
set_option maxRecDepth 20000 in
set_option maxHeartbeats 4000000 in
theorem r237_0 {X : Cst} {d : Nat} {x1 : Int} {h : AH} {Q : Post} (C_h : Lay h)
  (w : Ex X PG (d + 1) 237 4 [some (.ref 256), some (.int (J x1)), some (.int (J 0)), some (.int (J 0)), none] [] h Q) :
    Ex X PG (d + 1) 237 0 [some (.ref 256), some (.int (J x1)), none, none, none] [] h Q := by
  refine wpx_ok (cut := [4]) 4 d 237 0 _ _ _ _ ?_
  show Ex X PG (d + 1) 237 4 [some (.ref 256), some (.int (J x1)), some (.int (J 0)), some (.int (J 0)), none] [] h Q
  try simp only [aI_wAL, fI_wAL, aL_wA, aL_wF, aI_wA_ne, aI_wF_ne, fI_wA_ne, fI_wF_ne, fI_wF_nk, aL_wAL_ne, J_sameA, J_sameF, aL_same, Nat.add_left_cancel_iff, Nat.add_eq_left, Nat.left_eq_add, not_false_eq_true, Nat.reduceEqDiff, Nat.reduceAdd, J_add, J_sub, J_mul, J_neg, J_and, J_or, J_xor, J_shl, J_shr, J_div, J_i2b, J_i2l, J_l2i, J_lcm, J_max, J_min, J_nab, J_nao, rdA, rdF, rdL, wA_fold, wF_fold, wL_fold, wC_fold]
  exact w
-- OutwardDoorsModel.askersOf(I)I at 4
set_option maxRecDepth 20000 in
set_option maxHeartbeats 4000000 in
theorem r237_4 {X : Cst} {d : Nat} {x1 : Int} {x2 : Int} {x3 : Int} {l4 : Option Value} {h : AH} {Q : Post} (C_h : Lay h) (hd : 6 ≤ d)
  (w : (-2147483648 ≤ x3 ∧ x3 < 2147483648) ∧ ((aI h 266 2 ≤ x3 → Q (some (.int (J x2))) h) ∧ (¬ aI h 266 2 ≤ x3 → (-2147483648 ≤ x1 ∧ x1 < 2147483648) ∧ ((x3 = x1 → Ex X PG (d + 1) 237 4 [some (.ref 256), some (.int (J x1)), some (.int (J (x2 + 0))), some (.int (J (x3 + 1))), some (.int (J 0))] [] h Q) ∧ (¬ x3 = x1 → (WF 999 (aI h 266)) ∧ (0 ≤ x3 ∧ x3 < aI h 266 2) ∧ (∀ h23, SH h h23 → (Fr (fun c _ => c = 267) h h23) → (0 ≤ 10 + 6 * x1 + 0 ∧ 10 + 6 * x1 + 0 < 123) ∧ (-2147483648 ≤ stp (aI h 266) (nightP (aI h 266)) (pS (aI h 266) x3 0) (pS (aI h 266) x3 1) ∧ stp (aI h 266) (nightP (aI h 266)) (pS (aI h 266) x3 0) (pS (aI h 266) x3 1) < 2147483648) ∧ ((¬ stp (aI h 266) (nightP (aI h 266)) (pS (aI h 266) x3 0) (pS (aI h 266) x3 1) = pS (aI h23 266) x1 0 → Ex X PG (d + 1) 237 4 [some (.ref 256), some (.int (J x1)), some (.int (J (x2 + 0))), some (.int (J (x3 + 1))), some (.int (J 0))] [] h23 Q) ∧ (stp (aI h 266) (nightP (aI h 266)) (pS (aI h 266) x3 0) (pS (aI h 266) x3 1) = pS (aI h23 266) x1 0 → (0 ≤ 10 + 6 * x3 + 0 ∧ 10 + 6 * x3 + 0 < 123) ∧ (0 ≤ 34 + (pS (aI h23 266) x3 0) ∧ 34 + (pS (aI h23 266) x3 0) < 123) ∧ (0 ≤ 34 + (pS (aI h23 266) x1 0) ∧ 34 + (pS (aI h23 266) x1 0) < 123) ∧ ((aI h23 266 (34 + (pS (aI h23 266) x3 0)) ≤ aI h23 266 (34 + (pS (aI h23 266) x1 0)) → Ex X PG (d + 1) 237 4 [some (.ref 256), some (.int (J x1)), some (.int (J (x2 + 0))), some (.int (J (x3 + 1))), some (.int (J 1))] [] h23 Q) ∧ (¬ aI h23 266 (34 + (pS (aI h23 266) x3 0)) ≤ aI h23 266 (34 + (pS (aI h23 266) x1 0)) → Ex X PG (d + 1) 237 4 [some (.ref 256), some (.int (J x1)), some (.int (J (x2 + 1))), some (.int (J (x3 + 1))), some (.int (J 1))] [] h23 Q)))))))))) :
    Ex X PG (d + 1) 237 4 [some (.ref 256), some (.int (J x1)), some (.int (J x2)), some (.int (J x3)), l4] [] h Q := by
  refine wpx_ok (cut := [4]) 48 d 237 4 _ _ _ _ ?_
  show hs h 256 = (0, 11) ∧ ∃ q1, hR h 256 20 = some q1 ∧ (hs h q1).1 = 1 ∧ ix (J 2) (hs h q1).2 ∧ (((hI h q1 (Int32.toNatClampNeg (J 2))) ≤ (J x3) → Q (some (.int (J x2))) h) ∧ (¬ ((hI h q1 (Int32.toNatClampNeg (J 2))) ≤ (J x3)) → (((J x3) = (J x1) → (((J 0) = (J 0) → Ex X PG (d + 1) 237 4 [some (.ref 256), some (.int (J x1)), some (.int ((J x2) + (J 0))), some (.int ((J x3) + (J 1))), some (.int (J 0))] [] h Q) ∧ (¬ ((J 0) = (J 0)) → hs h 256 = (0, 11) ∧ ∃ q8, hR h 256 20 = some q8 ∧ hs h 256 = (0, 11) ∧ Ex X PG d 209 0 [some (.ref 256), some (.int (J x3)), some (.int (J 0))] [] h (fun v9 h10 => ∃ r11, v9 = some (.int r11) ∧ (hs h10 q8).1 = 1 ∧ ix ((J 34) + r11) (hs h10 q8).2 ∧ hs h10 256 = (0, 11) ∧ ∃ q14, hR h10 256 20 = some q14 ∧ hs h10 256 = (0, 11) ∧ Ex X PG d 209 0 [some (.ref 256), some (.int (J x1)), some (.int (J 0))] [] h10 (fun v15 h16 => ∃ r17, v15 = some (.int r17) ∧ (hs h16 q14).1 = 1 ∧ ix ((J 34) + r17) (hs h16 q14).2 ∧ (((hI h10 q8 (Int32.toNatClampNeg ((J 34) + r11))) ≤ (hI h16 q14 (Int32.toNatClampNeg ((J 34) + r17))) → Ex X PG (d + 1) 237 4 [some (.ref 256), some (.int (J x1)), some (.int ((J x2) + (J 0))), some (.int ((J x3) + (J 1))), some (.int (J 0))] [] h16 Q) ∧ (¬ ((hI h10 q8 (Int32.toNatClampNeg ((J 34) + r11))) ≤ (hI h16 q14 (Int32.toNatClampNeg ((J 34) + r17)))) → Ex X PG (d + 1) 237 4 [some (.ref 256), some (.int (J x1)), some (.int ((J x2) + (J 1))), some (.int ((J x3) + (J 1))), some (.int (J 0))] [] h16 Q))))))) ∧ (¬ ((J x3) = (J x1)) → hs h 256 = (0, 11) ∧ Ex X PG d 221 0 [some (.ref 256), some (.int (J x3)), none, none, none, none, none] [] h (fun v22 h23 => ∃ r24, v22 = some (.int r24) ∧ hs h23 256 = (0, 11) ∧ Ex X PG d 209 0 [some (.ref 256), some (.int (J x1)), some (.int (J 0))] [] h23 (fun v27 h28 => ∃ r29, v27 = some (.int r29) ∧ ((¬ r24 = r29 → (((J 0) = (J 0) → Ex X PG (d + 1) 237 4 [some (.ref 256), some (.int (J x1)), some (.int ((J x2) + (J 0))), some (.int ((J x3) + (J 1))), some (.int (J 0))] [] h28 Q) ∧ (¬ ((J 0) = (J 0)) → hs h28 256 = (0, 11) ∧ ∃ q34, hR h28 256 20 = some q34 ∧ hs h28 256 = (0, 11) ∧ Ex X PG d 209 0 [some (.ref 256), some (.int (J x3)), some (.int (J 0))] [] h28 (fun v35 h36 => ∃ r37, v35 = some (.int r37) ∧ (hs h36 q34).1 = 1 ∧ ix ((J 34) + r37) (hs h36 q34).2 ∧ hs h36 256 = (0, 11) ∧ ∃ q40, hR h36 256 20 = some q40 ∧ hs h36 256 = (0, 11) ∧ Ex X PG d 209 0 [some (.ref 256), some (.int (J x1)), some (.int (J 0))] [] h36 (fun v41 h42 => ∃ r43, v41 = some (.int r43) ∧ (hs h42 q40).1 = 1 ∧ ix ((J 34) + r43) (hs h42 q40).2 ∧ (((hI h36 q34 (Int32.toNatClampNeg ((J 34) + r37))) ≤ (hI h42 q40 (Int32.toNatClampNeg ((J 34) + r43))) → Ex X PG (d + 1) 237 4 [some (.ref 256), some (.int (J x1)), some (.int ((J x2) + (J 0))), some (.int ((J x3) + (J 1))), some (.int (J 0))] [] h42 Q) ∧ (¬ ((hI h36 q34 (Int32.toNatClampNeg ((J 34) + r37))) ≤ (hI h42 q40 (Int32.toNatClampNeg ((J 34) + r43)))) → Ex X PG (d + 1) 237 4 [some (.ref 256), some (.int (J x1)), some (.int ((J x2) + (J 1))), some (.int ((J x3) + (J 1))), some (.int (J 0))] [] h42 Q))))))) ∧ (¬ (¬ r24 = r29) → (((J 1) = (J 0) → Ex X PG (d + 1) 237 4 [some (.ref 256), some (.int (J x1)), some (.int ((J x2) + (J 0))), some (.int ((J x3) + (J 1))), some (.int (J 1))] [] h28 Q) ∧ (¬ ((J 1) = (J 0)) → hs h28 256 = (0, 11) ∧ ∃ q47, hR h28 256 20 = some q47 ∧ hs h28 256 = (0, 11) ∧ Ex X PG d 209 0 [some (.ref 256), some (.int (J x3)), some (.int (J 0))] [] h28 (fun v48 h49 => ∃ r50, v48 = some (.int r50) ∧ (hs h49 q47).1 = 1 ∧ ix ((J 34) + r50) (hs h49 q47).2 ∧ hs h49 256 = (0, 11) ∧ ∃ q53, hR h49 256 20 = some q53 ∧ hs h49 256 = (0, 11) ∧ Ex X PG d 209 0 [some (.ref 256), some (.int (J x1)), some (.int (J 0))] [] h49 (fun v54 h55 => ∃ r56, v54 = some (.int r56) ∧ (hs h55 q53).1 = 1 ∧ ix ((J 34) + r56) (hs h55 q53).2 ∧ (((hI h49 q47 (Int32.toNatClampNeg ((J 34) + r50))) ≤ (hI h55 q53 (Int32.toNatClampNeg ((J 34) + r56))) → Ex X PG (d + 1) 237 4 [some (.ref 256), some (.int (J x1)), some (.int ((J x2) + (J 0))), some (.int ((J x3) + (J 1))), some (.int (J 1))] [] h55 Q) ∧ (¬ ((hI h49 q47 (Int32.toNatClampNeg ((J 34) + r50))) ≤ (hI h55 q53 (Int32.toNatClampNeg ((J 34) + r56)))) → Ex X PG (d + 1) 237 4 [some (.ref 256), some (.int (J x1)), some (.int ((J x2) + (J 1))), some (.int ((J x3) + (J 1))), some (.int (J 1))] [] h55 Q))))))))))))))
  try simp only [aI_wAL, fI_wAL, aL_wA, aL_wF, aI_wA_ne, aI_wF_ne, fI_wA_ne, fI_wF_ne, fI_wF_nk, aL_wAL_ne, J_sameA, J_sameF, aL_same, Nat.add_left_cancel_iff, Nat.add_eq_left, Nat.left_eq_add, not_false_eq_true, Nat.reduceEqDiff, Nat.reduceAdd, J_add, J_sub, J_mul, J_neg, J_and, J_or, J_xor, J_shl, J_shr, J_div, J_i2b, J_i2l, J_l2i, J_lcm, J_max, J_min, J_nab, J_nao, rdA, rdF, rdL, wA_fold, wF_fold, wL_fold, wC_fold]
  refine ⟨(ls256 C_h), _, (lr256_20 C_h), ?_⟩
  refine ⟨congrArg Prod.fst (ls266 C_h), ixs (ls266 C_h) (by decide) (by decide), ?_⟩
  obtain ⟨k4, w⟩ := w
  refine ⟨fun c2 => ?_, fun c2 => ?_⟩
  · have t3 : aI h 266 2 ≤ x3 := ((Jle (rg_toInt _) k4).mp c2)
    replace w := w.1 t3
    exact w
  · have t3 : ¬ aI h 266 2 ≤ x3 := (fun e => c2 ((Jle (rg_toInt _) k4).mpr e))
    replace w := w.2 t3
    obtain ⟨k7, w⟩ := w
    refine ⟨fun c5 => ?_, fun c5 => ?_⟩
    · have t6 : x3 = x1 := ((Jeq k4 k7).mp c5)
      replace w := w.1 t6
      refine ⟨fun _ => ?_, fun c => absurd (by decide) c⟩
      exact w
    · have t6 : ¬ x3 = x1 := (fun e => c5 ((Jeq k4 k7).mpr e))
      replace w := w.2 t6
      refine ⟨(ls256 C_h), ?_⟩
      obtain ⟨k25, w⟩ := w
      obtain ⟨k26, w⟩ := w
      refine m221 (h := h) (p := x3) C_h (by omega) k25 k26 ?_
      intro h23 s60 p61
      replace w := w h23 s60 p61
      refine ⟨_, rfl, ?_⟩
      have C_h23 := Lay_SH s60 C_h
      try simp only [aI_wAL, fI_wAL, aL_wA, aL_wF, aI_wA_ne, aI_wF_ne, fI_wA_ne, fI_wF_ne, fI_wF_nk, aL_wAL_ne, J_sameA, J_sameF, aL_same, Nat.add_left_cancel_iff, Nat.add_eq_left, Nat.left_eq_add, not_false_eq_true, Nat.reduceEqDiff, Nat.reduceAdd, J_add, J_sub, J_mul, J_neg, J_and, J_or, J_xor, J_shl, J_shr, J_div, J_i2b, J_i2l, J_l2i, J_lcm, J_max, J_min, J_nab, J_nao, rdA, rdF, rdL, wA_fold, wF_fold, wL_fold, wC_fold]
      refine ⟨(ls256 C_h23), ?_⟩
      obtain ⟨k30, w⟩ := w
      refine m209 (h := h23) (p := x1) (w := 0) C_h23 (by omega) k30 ?_
      refine ⟨_, rfl, ?_⟩
      try simp only [aI_wAL, fI_wAL, aL_wA, aL_wF, aI_wA_ne, aI_wF_ne, fI_wA_ne, fI_wF_ne, fI_wF_nk, aL_wAL_ne, J_sameA, J_sameF, aL_same, Nat.add_left_cancel_iff, Nat.add_eq_left, Nat.left_eq_add, not_false_eq_true, Nat.reduceEqDiff, Nat.reduceAdd, J_add, J_sub, J_mul, J_neg, J_and, J_or, J_xor, J_shl, J_shr, J_div, J_i2b, J_i2l, J_l2i, J_lcm, J_max, J_min, J_nab, J_nao, rdA, rdF, rdL, wA_fold, wF_fold, wL_fold, wC_fold]
      obtain ⟨k33, w⟩ := w
      refine ⟨fun c31 => ?_, fun c31 => ?_⟩
      · have t32 : ¬ stp (aI h 266) (nightP (aI h 266)) (pS (aI h 266) x3 0) (pS (aI h 266) x3 1) = pS (aI h23 266) x1 0 := (fun e => c31 ((Jeq k33 (aI_rg _ _ _)).mpr e))
        replace w := w.1 t32
        refine ⟨fun _ => ?_, fun c => absurd (by decide) c⟩
        exact w
      · have t32 : stp (aI h 266) (nightP (aI h 266)) (pS (aI h 266) x3 0) (pS (aI h 266) x3 1) = pS (aI h23 266) x1 0 := ((Jeq k33 (aI_rg _ _ _)).mp (Classical.byContradiction c31))
        replace w := w.2 t32
        refine ⟨fun c => absurd c (by decide), fun _ => ?_⟩
        refine ⟨(ls256 C_h23), _, (lr256_20 C_h23), ?_⟩
        refine ⟨(ls256 C_h23), ?_⟩
        obtain ⟨k51, w⟩ := w
        refine m209 (h := h23) (p := x3) (w := 0) C_h23 (by omega) k51 ?_
        refine ⟨_, rfl, ?_⟩
        try simp only [aI_wAL, fI_wAL, aL_wA, aL_wF, aI_wA_ne, aI_wF_ne, fI_wA_ne, fI_wF_ne, fI_wF_nk, aL_wAL_ne, J_sameA, J_sameF, aL_same, Nat.add_left_cancel_iff, Nat.add_eq_left, Nat.left_eq_add, not_false_eq_true, Nat.reduceEqDiff, Nat.reduceAdd, J_add, J_sub, J_mul, J_neg, J_and, J_or, J_xor, J_shl, J_shr, J_div, J_i2b, J_i2l, J_l2i, J_lcm, J_max, J_min, J_nab, J_nao, rdA, rdF, rdL, wA_fold, wF_fold, wL_fold, wC_fold]
        obtain ⟨k52, w⟩ := w
        refine ⟨congrArg Prod.fst (ls266 C_h23), ixs (ls266 C_h23) k52 (by decide), ?_⟩
        refine ⟨(ls256 C_h23), _, (lr256_20 C_h23), ?_⟩
        refine ⟨(ls256 C_h23), ?_⟩
        refine m209 (h := h23) (p := x1) (w := 0) C_h23 (by omega) k30 ?_
        refine ⟨_, rfl, ?_⟩
        try simp only [aI_wAL, fI_wAL, aL_wA, aL_wF, aI_wA_ne, aI_wF_ne, fI_wA_ne, fI_wF_ne, fI_wF_nk, aL_wAL_ne, J_sameA, J_sameF, aL_same, Nat.add_left_cancel_iff, Nat.add_eq_left, Nat.left_eq_add, not_false_eq_true, Nat.reduceEqDiff, Nat.reduceAdd, J_add, J_sub, J_mul, J_neg, J_and, J_or, J_xor, J_shl, J_shr, J_div, J_i2b, J_i2l, J_l2i, J_lcm, J_max, J_min, J_nab, J_nao, rdA, rdF, rdL, wA_fold, wF_fold, wL_fold, wC_fold]
        obtain ⟨k57, w⟩ := w
        refine ⟨congrArg Prod.fst (ls266 C_h23), ixs (ls266 C_h23) k57 (by decide), ?_⟩
        refine ⟨fun c58 => ?_, fun c58 => ?_⟩
        · have t59 : aI h23 266 (34 + (pS (aI h23 266) x3 0)) ≤ aI h23 266 (34 + (pS (aI h23 266) x1 0)) := ((Jle (rg_toInt _) (rg_toInt _)).mp c58)
          replace w := w.1 t59
          exact w
        · have t59 : ¬ aI h23 266 (34 + (pS (aI h23 266) x3 0)) ≤ aI h23 266 (34 + (pS (aI h23 266) x1 0)) := (fun e => c58 ((Jle (rg_toInt _) (rg_toInt _)).mpr e))
          replace w := w.2 t59
          exact w
theorem q237_4 {X : Cst} {d : Nat} {p : Int} {h0 : AH} {Q : Post} (C0 : Lay h0) (hd : 6 ≤ d) (W : WF 999 (aI h0 266)) (hp : 0 ≤ p ∧ p < aI h0 266 2) (k : ∀ h', Fr (fun c _ => c = 267) h0 h' → Q (some (.int (J (askd (aI h0 266) (nightP (aI h0 266)) p)))) h') :
    ∀ (n : Nat) (i : Int) (h : AH) (l4 : Option Value), Fr (fun c _ => c = 267) h0 h → aI h0 266 2 - i ≤ n → 0 ≤ i → i ≤ aI h0 266 2 → Ex X PG (d + 1) 237 4 [some (.ref 256), some (.int (J p)), some (.int (J (sumN i.toNat fun o => bI (askP (aI h0 266) (nightP (aI h0 266)) p o)))), some (.int (J i)), l4] [] h Q := by
  have bb := W.1
  unfold WFb at bb
  intro n
  induction n with
  | zero =>
    intro i h l4 F h1 h2 h3
    have e := F.a 266 (fun _ => by decide)
    have q : i = aI h0 266 2 := by omega
    refine r237_4 (F.C C0) hd ?_
    rw [e]
    exact ⟨by omega, fun c => by rw [q]; exact k h F, fun c => absurd (by omega) c⟩
  | succ n ih =>
    intro i h l4 F h1 h2 h3
    have e := F.a 266 (fun _ => by decide)
    have ei : (i.toNat : Int) = i := by omega
    have pp := W.2.1 p hp.1 hp.2
    have nx : ∀ (h : AH) (l4 : Option Value) (v : Int), Fr (fun c _ => c = 267) h0 h → i < aI h0 266 2 → v = bI (askP (aI h0 266) (nightP (aI h0 266)) p i) → Ex X PG (d + 1) 237 4 [some (.ref 256), some (.int (J p)), some (.int (J ((sumN i.toNat fun o => bI (askP (aI h0 266) (nightP (aI h0 266)) p o)) + v))), some (.int (J (i + 1))), l4] [] h Q := by
      intro h l4 v F l ev
      have := ih (i + 1) h l4 F (by omega) (by omega) (by omega)
      rw [show (i + 1).toNat = i.toNat + 1 by omega] at this
      unfold sumN at this
      rw [ei] at this
      rw [ev]
      exact this
    refine r237_4 (F.C C0) hd ?_
    rw [e]
    refine ⟨by omega, fun c => ?_, fun c => ⟨by omega, fun c2 => ?_, fun c2 => ⟨W, by omega, fun h23 s po => ?_⟩⟩⟩
    · have q : i = aI h0 266 2 := by omega
      rw [q]; exact k h F
    · exact nx _ _ _ F (by omega) (bI_neg fun z => z.1 c2).symm
    · have F2 : Fr (fun c _ => c = 267) h0 h23 := F.tr po
      have e2 := F2.a 266 (fun _ => by decide)
      have pi := W.2.1 i (by omega) (by omega)
      rw [e2]
      refine ⟨by omega, stp_rg W _ _ _, fun c3 => ?_, fun c3 => ⟨by omega, by omega, by omega, fun c4 => ?_, fun c4 => ?_⟩⟩
      · exact nx _ _ _ F2 (by omega) (bI_neg fun z => c3 z.2.1).symm
      · exact nx _ _ _ F2 (by omega) (bI_neg fun z => by have := z.2.2; omega).symm
      · exact nx _ _ _ F2 (by omega) (bI_pos ⟨c2, c3, by omega⟩).symm
theorem m237 {X : Cst} {d : Nat} {p : Int} {h : AH} {Q : Post} (C : Lay h) (hd : 7 ≤ d) (W : WF 999 (aI h 266)) (hp : 0 ≤ p ∧ p < aI h 266 2) (k : ∀ h', SH h h' → Fr (fun c _ => c = 267) h h' → Q (some (.int (J (askd (aI h 266) (nightP (aI h 266)) p)))) h') : Ex X PG d 237 0 [some (.ref 256), some (.int (J p)), none, none, none] [] h Q := by
  obtain ⟨d, rfl⟩ : ∃ e, d = e + 1 := ⟨d - 1, by omega⟩
  have bb := W.1
  unfold WFb at bb
  exact r237_0 C (q237_4 C (by omega) W hp (fun h' F => k h' F.1 F) (aI h 266 2).toNat 0 h none Fr.rf (by omega) (by omega) (by omega))
