/-! THE CLASS: who comes in; doors found. -/
-- OutwardDoors$Mover.comeIn(LOutwardDoors$Plan;LOutwardDoors$World;)V at 0
set_option maxRecDepth 20000 in
set_option maxHeartbeats 4000000 in
theorem r103_0 {X : Cst} {d : Nat} {a : Nat} {b : Nat} {h : AH} {Q : Post} (C_h : Lay h) (K_h_0 : PlanAt h a) (K_h_1 : WorldAt h b) (apa : a = 4 ∨ a = 4 ∨ a = 53 ∨ 281 ≤ a) (apb : b = 64 ∨ b = 114)
  (w : Ex X PG (d + 1) 103 2 [some (.ref 241), some (.ref a), some (.ref b), some (.int (J 0)), none] [] h Q) :
    Ex X PG (d + 1) 103 0 [some (.ref 241), some (.ref a), some (.ref b), none, none] [] h Q := by
  refine wpx_ok (cut := [2]) 2 d 103 0 _ _ _ _ ?_
  show Ex X PG (d + 1) 103 2 [some (.ref 241), some (.ref a), some (.ref b), some (.int (J 0)), none] [] h Q
  try simp only [aI_wAL, fI_wAL, aL_wA, aL_wF, aI_wA_ne, aI_wF_ne, fI_wA_ne, fI_wF_ne, fI_wF_nk, aL_wAL_ne, J_sameA, J_sameF, aL_same, Nat.add_left_cancel_iff, Nat.add_eq_left, Nat.left_eq_add, not_false_eq_true, Nat.reduceEqDiff, Nat.reduceAdd, J_add, J_sub, J_mul, J_neg, J_and, J_or, J_xor, J_shl, J_shr, J_div, J_i2b, J_i2l, J_l2i, J_lcm, J_max, J_min, J_nab, J_nao, rdA, rdF, rdL, wA_fold, wF_fold, wL_fold, wC_fold]
  exact w
-- OutwardDoors$Mover.comeIn(LOutwardDoors$Plan;LOutwardDoors$World;)V at 2
set_option maxRecDepth 20000 in
set_option maxHeartbeats 4000000 in
theorem r103_2 {X : Cst} {d : Nat} {a : Nat} {b : Nat} {x3 : Int} {l4 : Option Value} {h : AH} {Q : Post} (C_h : Lay h) (K_h_0 : PlanAt h a) (K_h_1 : WorldAt h b) (apa : a = 4 ∨ a = 4 ∨ a = 53 ∨ 281 ≤ a) (apb : b = 64 ∨ b = 114) (hd : 1 ≤ d)
  (w : (-2147483648 ≤ x3 ∧ x3 < 2147483648) ∧ ((fI h a 2 ≤ x3 → Q none h) ∧ (¬ fI h a 2 ≤ x3 → (0 ≤ x3 ∧ x3 < 4) ∧ ((¬ aI h 245 x3 = (-1) → (0 ≤ (fI h a 2) ∧ (fI h a 2) ≤ 4) ∧ (-2147483648 ≤ (aI h 245 x3) ∧ (aI h 245 x3) < 2147483648) ∧ (∀ h10, SH h h10 → (Fr (fun c _ => c = 244) h h10 ∧ aI h10 244 = TkA (aI h 244) (lst fun q => q < (fI h a 2) ∧ aI h 244 q = (aI h 245 x3))) → (-2147483648 ≤ (lst fun q => q < (fI h a 2) ∧ aI h 244 q = (aI h 245 x3)) ∧ (lst fun q => q < (fI h a 2) ∧ aI h 244 q = (aI h 245 x3)) < 2147483648) ∧ (((lst fun q => q < (fI h a 2) ∧ aI h 244 q = (aI h 245 x3)) = (-1) → Ex X PG (d + 1) 103 2 [some (.ref 241), some (.ref a), some (.ref b), some (.int (J (x3 + 1))), some (.int (J (lst fun q => q < (fI h a 2) ∧ aI h 244 q = (aI h 245 x3))))] [] h10 Q) ∧ (¬ (lst fun q => q < (fI h a 2) ∧ aI h 244 q = (aI h 245 x3)) = (-1) → (0 ≤ aI h10 245 x3 ∧ aI h10 245 x3 < 14) ∧ Ex X PG (d + 1) 103 2 [some (.ref 241), some (.ref a), some (.ref b), some (.int (J (x3 + 1))), some (.int (J (lst fun q => q < (fI h a 2) ∧ aI h 244 q = (aI h 245 x3))))] [] (wF (wA (wA (wA h10 (b + 1) x3 (aI h10 (a + 2) (aI h10 245 x3))) (b + 3) x3 (aI h10 (b + 3) x3 + 1)) (b + 5) x3 (lst fun q => q < (fI h a 2) ∧ aI h 244 q = (aI h 245 x3))) 241 5 ((fI h10 241 5) + 1)) Q)))) ∧ (aI h 245 x3 = (-1) → Ex X PG (d + 1) 103 2 [some (.ref 241), some (.ref a), some (.ref b), some (.int (J (x3 + 1))), some (.int (J (-1)))] [] h Q))))) :
    Ex X PG (d + 1) 103 2 [some (.ref 241), some (.ref a), some (.ref b), some (.int (J x3)), l4] [] h Q := by
  refine wpx_ok (cut := [2]) 41 d 103 2 _ _ _ _ ?_
  show hs h a = (0, 2) ∧ (((hF h a 2) ≤ (J x3) → Q none h) ∧ (¬ ((hF h a 2) ≤ (J x3)) → hs h 241 = (0, 1) ∧ ∃ q4, hR h 241 3 = some q4 ∧ (hs h q4).1 = 1 ∧ ix (J x3) (hs h q4).2 ∧ ((¬ (hI h q4 (Int32.toNatClampNeg (J x3))) = (J (-1)) → hs h a = (0, 2) ∧ hs h 241 = (0, 1) ∧ ∃ q8, hR h 241 3 = some q8 ∧ (hs h q8).1 = 1 ∧ ix (J x3) (hs h q8).2 ∧ hs h 241 = (0, 1) ∧ Ex X PG d 104 0 [some (.ref 241), some (.int (hF h a 2)), some (.int (hI h q8 (Int32.toNatClampNeg (J x3)))), none] [] h (fun v9 h10 => ∃ r11, v9 = some (.int r11) ∧ ((r11 = (J (-1)) → Ex X PG (d + 1) 103 2 [some (.ref 241), some (.ref a), some (.ref b), some (.int ((J x3) + (J 1))), some (.int r11)] [] h10 Q) ∧ (¬ (r11 = (J (-1))) → hs h10 a = (0, 2) ∧ ∃ q17, hR h10 a 7 = some q17 ∧ hs h10 241 = (0, 1) ∧ ∃ q18, hR h10 241 3 = some q18 ∧ (hs h10 q18).1 = 1 ∧ ix (J x3) (hs h10 q18).2 ∧ (hs h10 q17).1 = 1 ∧ ix (hI h10 q18 (Int32.toNatClampNeg (J x3))) (hs h10 q17).2 ∧ hs h10 b = (0, 9) ∧ Ex X PG d 105 0 [some (.ref b), some (.int (J x3)), some (.int (hI h10 q17 (Int32.toNatClampNeg (hI h10 q18 (Int32.toNatClampNeg (J x3)))))), some (.int r11)] [] h10 (fun v20 h21 => v20 = none ∧ hs h21 241 = (0, 1) ∧ hs h21 241 = (0, 1) ∧ Ex X PG (d + 1) 103 2 [some (.ref 241), some (.ref a), some (.ref b), some (.int ((J x3) + (J 1))), some (.int r11)] [] (wG h21 241 5 ((hF h21 241 5) + (J 1))) Q))))) ∧ (¬ (¬ (hI h q4 (Int32.toNatClampNeg (J x3))) = (J (-1))) → (((J (-1)) = (J (-1)) → Ex X PG (d + 1) 103 2 [some (.ref 241), some (.ref a), some (.ref b), some (.int ((J x3) + (J 1))), some (.int (J (-1)))] [] h Q) ∧ (¬ ((J (-1)) = (J (-1))) → hs h a = (0, 2) ∧ ∃ q24, hR h a 7 = some q24 ∧ hs h 241 = (0, 1) ∧ ∃ q25, hR h 241 3 = some q25 ∧ (hs h q25).1 = 1 ∧ ix (J x3) (hs h q25).2 ∧ (hs h q24).1 = 1 ∧ ix (hI h q25 (Int32.toNatClampNeg (J x3))) (hs h q24).2 ∧ hs h b = (0, 9) ∧ Ex X PG d 105 0 [some (.ref b), some (.int (J x3)), some (.int (hI h q24 (Int32.toNatClampNeg (hI h q25 (Int32.toNatClampNeg (J x3)))))), some (.int (J (-1)))] [] h (fun v27 h28 => v27 = none ∧ hs h28 241 = (0, 1) ∧ hs h28 241 = (0, 1) ∧ Ex X PG (d + 1) 103 2 [some (.ref 241), some (.ref a), some (.ref b), some (.int ((J x3) + (J 1))), some (.int (J (-1)))] [] (wG h28 241 5 ((hF h28 241 5) + (J 1))) Q)))))))
  have ne_0 : ¬ 241 = b + 1 := by omega
  have ne_1 : ¬ 241 = b + 3 := by omega
  have ne_2 : ¬ 241 = b + 5 := by omega
  try simp only [aI_wAL, fI_wAL, aL_wA, aL_wF, aI_wA_ne, aI_wF_ne, fI_wA_ne, fI_wF_ne, fI_wF_nk, aL_wAL_ne, J_sameA, J_sameF, aL_same, Nat.add_left_cancel_iff, Nat.add_eq_left, Nat.left_eq_add, not_false_eq_true, Nat.reduceEqDiff, ne_0, ne_1, ne_2, Nat.reduceAdd, J_add, J_sub, J_mul, J_neg, J_and, J_or, J_xor, J_shl, J_shr, J_div, J_i2b, J_i2l, J_l2i, J_lcm, J_max, J_min, J_nab, J_nao, rdA, rdF, rdL, wA_fold, wF_fold, wL_fold, wC_fold]
  refine ⟨(plan_0 K_h_0), ?_⟩
  obtain ⟨k3, w⟩ := w
  refine ⟨fun c1 => ?_, fun c1 => ?_⟩
  · have t2 : fI h a 2 ≤ x3 := ((Jle (rg_toInt _) k3).mp c1)
    replace w := w.1 t2
    exact w
  · have t2 : ¬ fI h a 2 ≤ x3 := (fun e => c1 ((Jle (rg_toInt _) k3).mpr e))
    replace w := w.2 t2
    refine ⟨(ls241 C_h), _, (lr241_3 C_h), ?_⟩
    obtain ⟨k5, w⟩ := w
    refine ⟨congrArg Prod.fst (ls245 C_h), ixs (ls245 C_h) k5 (by decide), ?_⟩
    refine ⟨fun c6 => ?_, fun c6 => ?_⟩
    · have t7 : ¬ aI h 245 x3 = (-1) := (fun e => c6 ((Jeq (rg_toInt _) (by decide)).mpr e))
      replace w := w.1 t7
      refine ⟨(plan_0 K_h_0), ?_⟩
      refine ⟨(ls241 C_h), _, (lr241_3 C_h), ?_⟩
      refine ⟨congrArg Prod.fst (ls245 C_h), ixs (ls245 C_h) k5 (by decide), ?_⟩
      refine ⟨(ls241 C_h), ?_⟩
      obtain ⟨k12, w⟩ := w
      obtain ⟨k13, w⟩ := w
      refine m104 (h := h) (n := (fI h a 2)) (x := (aI h 245 x3)) C_h (by omega) k12 k13 ?_
      intro h10 s22 p23
      replace w := w h10 s22 p23
      refine ⟨_, rfl, ?_⟩
      have C_h10 := Lay_SH s22 C_h
      have K_h10_0 := PlanAt_SH s22 K_h_0
      have K_h10_1 := WorldAt_SH s22 K_h_1
      try simp only [aI_wAL, fI_wAL, aL_wA, aL_wF, aI_wA_ne, aI_wF_ne, fI_wA_ne, fI_wF_ne, fI_wF_nk, aL_wAL_ne, J_sameA, J_sameF, aL_same, Nat.add_left_cancel_iff, Nat.add_eq_left, Nat.left_eq_add, not_false_eq_true, Nat.reduceEqDiff, ne_0, ne_1, ne_2, Nat.reduceAdd, J_add, J_sub, J_mul, J_neg, J_and, J_or, J_xor, J_shl, J_shr, J_div, J_i2b, J_i2l, J_l2i, J_lcm, J_max, J_min, J_nab, J_nao, rdA, rdF, rdL, wA_fold, wF_fold, wL_fold, wC_fold]
      obtain ⟨k16, w⟩ := w
      refine ⟨fun c14 => ?_, fun c14 => ?_⟩
      · have t15 : (lst fun q => q < (fI h a 2) ∧ aI h 244 q = (aI h 245 x3)) = (-1) := ((Jeq k16 (by decide)).mp c14)
        replace w := w.1 t15
        exact w
      · have t15 : ¬ (lst fun q => q < (fI h a 2) ∧ aI h 244 q = (aI h 245 x3)) = (-1) := (fun e => c14 ((Jeq k16 (by decide)).mpr e))
        replace w := w.2 t15
        refine ⟨(plan_0 K_h10_0), _, (plan_12 K_h10_0), ?_⟩
        refine ⟨(ls241 C_h10), _, (lr241_3 C_h10), ?_⟩
        refine ⟨congrArg Prod.fst (ls245 C_h10), ixs (ls245 C_h10) k5 (by decide), ?_⟩
        obtain ⟨k19, w⟩ := w
        refine ⟨congrArg Prod.fst (plan_2 K_h10_0), ixs (plan_2 K_h10_0) k19 (by decide), ?_⟩
        refine ⟨(world_0 K_h10_1), ?_⟩
        refine m105 (h := h10) (a := b) (p := x3) (t := (aI h10 (a + 2) (aI h10 245 x3))) (b := (lst fun q => q < (fI h a 2) ∧ aI h 244 q = (aI h 245 x3))) C_h10 K_h10_1 (by omega) k5 ?_
        refine ⟨rfl, ?_⟩
        try simp only [aI_wAL, fI_wAL, aL_wA, aL_wF, aI_wA_ne, aI_wF_ne, fI_wA_ne, fI_wF_ne, fI_wF_nk, aL_wAL_ne, J_sameA, J_sameF, aL_same, Nat.add_left_cancel_iff, Nat.add_eq_left, Nat.left_eq_add, not_false_eq_true, Nat.reduceEqDiff, ne_0, ne_1, ne_2, Nat.reduceAdd, J_add, J_sub, J_mul, J_neg, J_and, J_or, J_xor, J_shl, J_shr, J_div, J_i2b, J_i2l, J_l2i, J_lcm, J_max, J_min, J_nab, J_nao, rdA, rdF, rdL, wA_fold, wF_fold, wL_fold, wC_fold]
        refine ⟨(ls241 C_h10), ?_⟩
        refine ⟨(ls241 C_h10), ?_⟩
        exact w
    · have t7 : aI h 245 x3 = (-1) := ((Jeq (rg_toInt _) (by decide)).mp (Classical.byContradiction c6))
      replace w := w.2 t7
      refine ⟨fun _ => ?_, fun c => absurd (by decide) c⟩
      exact w
/-- the opener that is taken is byw -/
theorem opener {S D : Int → Int} {A : Int → Int} {i : Int} (h2 : 0 ≤ S 2) (hi : 0 ≤ i ∧ i < S 2) (hd : 0 ≤ D i) (ng : ¬ gO S D i) (O : ∀ q, 0 ≤ q → q < S 2 → A q = @ite Int (gO S D q ∧ ¬ cnt (ouB S D (D q)) q < cnt (inB S D (D q)) i) (Classical.propDecidable _) (D q) (-1)) : (lst fun q => q < S 2 ∧ A q = D i) = byw S D i := by
  have P : ∀ q, 0 ≤ q → q < S 2 → (A q = D i ↔ ouB S D (D i) q ∧ ¬ cnt (ouB S D (D i)) q < rnk S D i) := by
    intro q q0 q1
    rw [O q q0 q1]
    constructor
    · intro z
      by_cases c : gO S D q ∧ ¬ cnt (ouB S D (D q)) q < cnt (inB S D (D q)) i
      · rw [if_pos c] at z
        rw [z] at c
        exact ⟨⟨z, c.1⟩, c.2⟩
      · rw [if_neg c] at z; omega
    · intro z
      have e := z.1.1
      rw [if_pos ⟨z.1.2, by rw [e]; exact z.2⟩, e]
  unfold byw
  rcases kth_or (ouB S D (D i)) h2 (rnk_nn S D hi.1) with k | k
  · rw [k.1]
    refine lst_no fun u hu z => ?_
    have y := (P u hu z.1).mp z.2
    have := cnt_lt hu z.1 y.1
    have := y.2
    omega
  · refine lst_eq k.1 ⟨k.2.1, (P _ k.1 k.2.1).mpr ⟨k.2.2.1, by omega⟩⟩ fun u hu z => ?_
    have y := (P u hu z.1).mp z.2
    by_cases l : u < kth (ouB S D (D i)) (S 2) (rnk S D i)
    · have := cnt_lt hu l y.1; have := y.2; omega
    · omega
theorem m103 {X : Cst} {d : Nat} {a b : Nat} {S D : Int → Int} {h : AH} {Q : Post} (C : Lay h) (K : PlanAt h a) (L : WorldAt h b) (apa : a = 4 ∨ a = 4 ∨ a = 53 ∨ 281 ≤ a) (apb : b = 64 ∨ b = 114) (hd : 2 ≤ d) (P : PlanRep h a S) (W : WF 999 S) (hD : ∀ p, 0 ≤ p → p < S 2 → D p = -1 ∨ (0 ≤ D p ∧ D p < S 1))
    (O : OutB h S D 0) (I : InB h S D) (w : WCells h b S (pclg S D (gO S D) (fun _ => False))) (r : Rst h b S) (h5 : fI h 241 5 = 0)
    (k : ∀ h', SH h h' → (Fr (fun c k => (b < c ∧ c ≤ b + 5) ∨ c = 244 ∨ (c = 241 ∧ k = 5)) h h' ∧ WCells h' b S (pclg S D (gO S D) (cmI S D)) ∧ Rst h' b S ∧ fI h' 241 5 = cnt (cmI S D) (S 2)) → Q none h') : Ex X PG d 103 0 [some (.ref 241), some (.ref a), some (.ref b), none, none] [] h Q := by
  obtain ⟨d, rfl⟩ : ∃ e, d = e + 1 := ⟨d - 1, by omega⟩
  have bb := W.1
  unfold WFb at bb
  have lp : ∀ (n : Nat) (i : Int) (h' : AH) (l4 : Option Value), Fr (fun c k => (b < c ∧ c ≤ b + 5) ∨ c = 244 ∨ (c = 241 ∧ k = 5)) h h' → S 2 - i = n → 0 ≤ i → OutB h' S D i → WCells h' b S (pclg S D (gO S D) (fun p => cmI S D p ∧ p < i)) → Rst h' b S → fI h' 241 5 = cnt (cmI S D) i → Ex X PG (d + 1) 103 2 [some (.ref 241), some (.ref a), some (.ref b), some (.int (J i)), l4] [] h' Q := by
    intro n
    induction n with
    | zero =>
      intro i h' l4 F h1 h2 O w r c5
      have P' := P.fr F (fun c k z => by omega)
      refine r103_2 (F.C C) (PlanAt_SH F.1 K) (WorldAt_SH F.1 L) apa apb (by omega) ?_
      rw [P'.1.2.2.1]
      refine ⟨by omega, fun _ => k h' F.1 ⟨F, fun p p0 p1 => ?_, r, by rw [c5, show i = S 2 by omega]⟩, fun c => absurd (by omega) c⟩
      have e : ∀ u, pclg S D (gO S D) (cmI S D) p u = pclg S D (gO S D) (fun p => cmI S D p ∧ p < i) p u := fun u => pclg_cong Iff.rfl ⟨fun z => ⟨z, by omega⟩, fun z => z.1⟩
      rw [e, e, e, e, e]
      exact w p p0 p1
    | succ n ih =>
      intro i h' l4 F h1 h2 O w r c5
      have P' := P.fr F (fun c k z => by omega)
      have ii : aI h' 245 i = @ite Int (gO S D i) (Classical.propDecidable _) (-1) (D i) := by
        rw [F.a 245 (fun k z => by omega)]; exact I i h2 (by omega)
      have cs := cnt_s (cmI S D) h2
      have dI := hD i h2 (by omega)
      -- a person who does not come in, and who takes no opener
      have stay : ∀ (l4 : Option Value), ¬ cmI S D i → OutB h' S D (i + 1) → Ex X PG (d + 1) 103 2 [some (.ref 241), some (.ref a), some (.ref b), some (.int (J (i + 1))), l4] [] h' Q := by
        intro l4 nc O'
        rw [bI_neg nc, Int.add_zero] at cs
        refine ih (i + 1) h' l4 F (by omega) (by omega) O' (fun p p0 p1 => ?_) r (by rw [cs]; exact c5)
        have e : ∀ u, pclg S D (gO S D) (fun p => cmI S D p ∧ p < i + 1) p u = pclg S D (gO S D) (fun p => cmI S D p ∧ p < i) p u := fun u => pclg_cong Iff.rfl ⟨fun z => ⟨z.1, by
          by_cases q : p = i
          · subst q; exact absurd z.1 nc
          · have := z.2; omega⟩, fun z => ⟨z.1, by have := z.2; omega⟩⟩
        rw [e, e, e, e, e]
        exact w p p0 p1
      -- the openers of other doors stay as they are
      have oth : ∀ q, 0 ≤ q → q < S 2 → (gO S D q → ¬ inB S D (D q) i) → aI h' 244 q = @ite Int (gO S D q ∧ ¬ cnt (ouB S D (D q)) q < cnt (inB S D (D q)) (i + 1)) (Classical.propDecidable _) (D q) (-1) := by
        intro q q0 q1 z
        rw [O q q0 q1]
        by_cases g : gO S D q
        · rw [cnt_s _ h2, bI_neg (z g), Int.add_zero]
        · rw [if_neg (fun y => g y.1), if_neg (fun y => g y.1)]
      refine r103_2 (F.C C) (PlanAt_SH F.1 K) (WorldAt_SH F.1 L) apa apb (by omega) ?_
      rw [P'.1.2.2.1, ii]
      by_cases g : gO S D i
      · rw [if_pos g]
        refine ⟨by omega, fun c => absurd c (by omega), fun _ => ⟨by omega, fun c => absurd rfl c, fun _ => ?_⟩⟩
        exact stay _ (fun z => z.2.1 g) (fun q q0 q1 => oth q q0 q1 (fun _ z => z.2 g))
      · rw [if_neg g]
        by_cases dm : D i = -1
        · refine ⟨by omega, fun c => absurd c (by omega), fun _ => ⟨by omega, fun c => absurd dm c, fun _ => ?_⟩⟩
          exact stay _ (fun z => by have := z.1; omega) (fun q q0 q1 => oth q q0 q1 (fun gq z => by have := z.1; have := gq.1; omega))
        · have db := dI.resolve_left dm
          have ow := opener (A := aI h' 244) (by omega) ⟨h2, by omega⟩ db.1 g O
          have kb := kth_or (ouB S D (D i)) (n := S 2) (by omega) (rnk_nn S D h2)
          have kb : (byw S D i = -1 ∧ cnt (ouB S D (D i)) (S 2) ≤ rnk S D i) ∨ (0 ≤ byw S D i ∧ byw S D i < S 2 ∧ ouB S D (D i) (byw S D i) ∧ cnt (ouB S D (D i)) (byw S D i) = rnk S D i) := kb
          have inI : inB S D (D i) i := ⟨rfl, g⟩
          rw [ow]
          refine ⟨by omega, fun c => absurd c (by omega), fun _ => ⟨by omega, fun _ => ⟨by omega, by omega, fun h10 s10 p10 => ?_⟩, fun c => absurd c dm⟩⟩
          have F10 : Fr (fun c k => (b < c ∧ c ≤ b + 5) ∨ c = 244 ∨ (c = 241 ∧ k = 5)) h h10 := F.tr (p10.1.mo fun c k z => Or.inr (Or.inl z))
          have P10 := P.fr F10 (fun c k z => by omega)
          -- the openers behind
          have O10 : OutB h10 S D (i + 1) := by
            intro q q0 q1
            rw [p10.2]
            unfold TkA
            by_cases same : gO S D q ∧ D q = D i
            · have oq : ouB S D (D i) q := ⟨same.2, same.1⟩
              rw [same.2, cnt_s _ h2, bI_pos inI]
              rcases kb with kb | kb
              · rw [if_pos kb.1, O q q0 q1, same.2]
                have := cnt_lt q0 q1 oq
                have e1 : cnt (ouB S D (D i)) q < cnt (inB S D (D i)) i := by have : rnk S D i = cnt (inB S D (D i)) i := rfl; omega
                rw [if_neg (fun z => z.2 e1), if_neg (fun z => z.2 (by omega))]
              · rw [if_neg (by omega)]
                have rk : rnk S D i = cnt (inB S D (D i)) i := rfl
                by_cases e : q = byw S D i
                · subst e
                  rw [uu_eq, if_neg (fun z => z.2 (by omega))]
                · rw [uu_ne (by omega) (by omega) e, O q q0 q1, same.2]
                  have ne : ¬ cnt (ouB S D (D i)) q = rnk S D i := fun z => e (cnt_uniq q0 kb.1 oq kb.2.2.1 (by omega))
                  by_cases l : cnt (ouB S D (D i)) q < cnt (inB S D (D i)) i
                  · rw [if_neg (fun z => z.2 l), if_neg (fun z => z.2 (by omega))]
                  · rw [if_pos ⟨same.1, l⟩, if_pos ⟨same.1, by omega⟩]
            · have e2 : (if byw S D i = -1 then aI h' 244 else uu_ (aI h' 244) (byw S D i) (-1)) q = aI h' 244 q := by
                rcases kb with kb | kb
                · rw [if_pos kb.1]
                · rw [if_neg (by omega), uu_ne (by omega) (by omega) (fun z => same ⟨by rw [z]; exact kb.2.2.1.2, by rw [z]; exact kb.2.2.1.1⟩)]
              rw [e2]
              exact oth q q0 q1 (fun gq z => same ⟨gq, z.1.symm⟩)
          have w10 : WCells h10 b S (pclg S D (gO S D) (fun p => cmI S D p ∧ p < i)) := fun p p0 p1 => by
            rw [p10.1.a (b + 1) (fun k z => by omega), p10.1.a (b + 2) (fun k z => by omega), p10.1.a (b + 3) (fun k z => by omega), p10.1.a (b + 4) (fun k z => by omega), p10.1.a (b + 5) (fun k z => by omega)]
            exact w p p0 p1
          have r10 : Rst h10 b S := fun p p0 p1 => by
            rw [p10.1.a (b + 3) (fun k z => by omega), p10.1.a (b + 4) (fun k z => by omega)]
            exact r p p0 p1
          have c10 : fI h10 241 5 = cnt (cmI S D) i := by rw [p10.1.f 241 5 (by decide)]; exact c5
          refine ⟨by omega, fun c => ?_, fun c => ?_⟩
          · have nc : ¬ cmI S D i := fun z => by have := z.2.2; omega
            rw [bI_neg nc, Int.add_zero] at cs
            refine ih (i + 1) h10 _ F10 (by omega) (by omega) O10 (fun p p0 p1 => ?_) r10 (by rw [cs]; exact c10)
            have e : ∀ u, pclg S D (gO S D) (fun p => cmI S D p ∧ p < i + 1) p u = pclg S D (gO S D) (fun p => cmI S D p ∧ p < i) p u := fun u => pclg_cong Iff.rfl ⟨fun z => ⟨z.1, by
              by_cases q : p = i
              · subst q; exact absurd z.1 nc
              · have := z.2; omega⟩, fun z => ⟨z.1, by have := z.2; omega⟩⟩
            rw [e, e, e, e, e]
            exact w10 p p0 p1
          · have cm : cmI S D i := ⟨db.1, g, by omega⟩
            rw [bI_pos cm] at cs
            have cb := cnt_b (cmI S D) h2
            have i10 : aI h10 245 i = D i := by rw [p10.1.a 245 (fun k z => by omega), ii, if_neg g]
            have wi := w10 i h2 (by omega)
            have pi := W.2.1 i h2 (by omega)
            have dd := W.2.2.2.1 (D i) db.1 db.2
            have e3 : pclg S D (gO S D) (fun p => cmI S D p ∧ p < i) i 3 = pS S i 3 := by
              unfold pclg
              rw [if_neg (by decide), if_pos rfl, bI_neg (fun z => by have := z.2; omega), Int.add_zero]
            rw [i10, (P10.2.2.2.1 (D i) db.1 db.2).1, c10, wi.2.2.1, e3]
            refine ⟨by omega, ?_⟩
            have F2 : Fr (fun c k => (b < c ∧ c ≤ b + 5) ∨ c = 244 ∨ (c = 241 ∧ k = 5)) h (wF (wA (wA (wA h10 (b + 1) i (nr S (D i))) (b + 3) i (pS S i 3 + 1)) (b + 5) i (byw S D i)) 241 5 (cnt (cmI S D) i + 1)) := (((F10.wA (Or.inl (by omega))).wA (Or.inl (by omega))).wA (Or.inl (by omega))).wF (Or.inr (Or.inr ⟨rfl, rfl⟩))
            have g1 : aI (wF (wA (wA (wA h10 (b + 1) i (nr S (D i))) (b + 3) i (pS S i 3 + 1)) (b + 5) i (byw S D i)) 241 5 (cnt (cmI S D) i + 1)) (b + 1) = uu_ (aI h10 (b + 1)) i (nr S (D i)) := by rw [aI_wF_ne (by omega), aI_wA_ne (by omega), aI_wA_ne (by omega), aI_wA (by omega)]
            have g2 : aI (wF (wA (wA (wA h10 (b + 1) i (nr S (D i))) (b + 3) i (pS S i 3 + 1)) (b + 5) i (byw S D i)) 241 5 (cnt (cmI S D) i + 1)) (b + 2) = aI h10 (b + 2) := by rw [aI_wF_ne (by omega), aI_wA_ne (by omega), aI_wA_ne (by omega), aI_wA_ne (by omega)]
            have g3 : aI (wF (wA (wA (wA h10 (b + 1) i (nr S (D i))) (b + 3) i (pS S i 3 + 1)) (b + 5) i (byw S D i)) 241 5 (cnt (cmI S D) i + 1)) (b + 3) = uu_ (aI h10 (b + 3)) i (pS S i 3 + 1) := by rw [aI_wF_ne (by omega), aI_wA_ne (by omega), aI_wA (by omega), aI_wA_ne (by omega)]
            have g4 : aI (wF (wA (wA (wA h10 (b + 1) i (nr S (D i))) (b + 3) i (pS S i 3 + 1)) (b + 5) i (byw S D i)) 241 5 (cnt (cmI S D) i + 1)) (b + 4) = aI h10 (b + 4) := by rw [aI_wF_ne (by omega), aI_wA_ne (by omega), aI_wA_ne (by omega), aI_wA_ne (by omega)]
            have g5 : aI (wF (wA (wA (wA h10 (b + 1) i (nr S (D i))) (b + 3) i (pS S i 3 + 1)) (b + 5) i (byw S D i)) 241 5 (cnt (cmI S D) i + 1)) (b + 5) = uu_ (aI h10 (b + 5)) i (byw S D i) := by rw [aI_wF_ne (by omega), aI_wA (by omega), aI_wA_ne (by omega), aI_wA_ne (by omega)]
            have g244 : aI (wF (wA (wA (wA h10 (b + 1) i (nr S (D i))) (b + 3) i (pS S i 3 + 1)) (b + 5) i (byw S D i)) 241 5 (cnt (cmI S D) i + 1)) 244 = aI h10 244 := by rw [aI_wF_ne (by omega), aI_wA_ne (by omega), aI_wA_ne (by omega), aI_wA_ne (by omega)]
            refine ih (i + 1) _ _ F2 (by omega) (by omega) (fun q q0 q1 => by rw [g244]; exact O10 q q0 q1) (fun p p0 p1 => ?_) (fun p p0 p1 => ?_) ?_
            · rw [g1, g2, g3, g4, g5]
              have wp := w10 p p0 p1
              by_cases q : p = i
              · subst q
                rw [uu_eq, uu_eq, uu_eq, wp.2.1, wp.2.2.2.1]
                unfold pclg
                simp only [show ¬ (1 : Int) = 0 by decide, show ¬ (1 : Int) = 3 by decide, show ¬ (1 : Int) = 4 by decide, show ¬ (1 : Int) = 5 by decide, show ¬ (3 : Int) = 0 by decide, show ¬ (4 : Int) = 0 by decide, show ¬ (4 : Int) = 3 by decide, show ¬ (5 : Int) = 0 by decide, show ¬ (5 : Int) = 3 by decide, show ¬ (5 : Int) = 4 by decide, if_true, if_false]
                rw [if_neg g, if_pos ⟨cm, by omega⟩, bI_pos ⟨cm, by omega⟩]
                exact ⟨rfl, trivial, rfl, trivial, (if_pos ⟨cm, by omega⟩).symm⟩
              · rw [uu_ne (by omega) (by omega) q, uu_ne (by omega) (by omega) q, uu_ne (by omega) (by omega) q]
                have e : ∀ u, pclg S D (gO S D) (fun p => cmI S D p ∧ p < i + 1) p u = pclg S D (gO S D) (fun p => cmI S D p ∧ p < i) p u := fun u => pclg_cong Iff.rfl ⟨fun z => ⟨z.1, by have := z.2; omega⟩, fun z => ⟨z.1, by have := z.2; omega⟩⟩
                rw [e, e, e, e, e]
                exact wp
            · rw [g3, g4, uu_ne (by omega) (by omega) (by omega)]
              exact r10 p p0 p1
            · rw [fI_wF_eq (by omega), cs]
  refine r103_0 C K L apa apb (lp (S 2).toNat 0 h none Fr.rf (by omega) (by omega) O (fun p p0 p1 => ?_) r (by rw [cnt_0]; exact h5))
  have e : ∀ u, pclg S D (gO S D) (fun p => cmI S D p ∧ p < 0) p u = pclg S D (gO S D) (fun _ => False) p u := fun u => pclg_cong Iff.rfl ⟨fun z => by have := z.2; omega, fun z => z.elim⟩
  rw [e, e, e, e, e]
  exact w p p0 p1
-- OutwardDoors$Mover.findDoor(LOutwardDoors$Plan;LOutwardDoors$World;I)V at 0
set_option maxRecDepth 20000 in
set_option maxHeartbeats 4000000 in
theorem r100_0 {X : Cst} {d : Nat} {a : Nat} {b : Nat} {x3 : Int} {h : AH} {Q : Post} (C_h : Lay h) (K_h_0 : PlanAt h a) (K_h_1 : WorldAt h b) (apa : a = 4 ∨ a = 4 ∨ a = 53 ∨ 281 ≤ a) (apb : b = 64 ∨ b = 114) (hd : 1 ≤ d)
  (w : (0 ≤ x3 ∧ x3 < 4) ∧ ((¬ aI h 243 x3 = (-1) → (0 ≤ (aI h (b + 1) x3) * 8 + (aI h 243 x3) ∧ (aI h (b + 1) x3) * 8 + (aI h 243 x3) < 64) ∧ ((aI h (a + 7) ((aI h (b + 1) x3) * 8 + (aI h 243 x3)) = (-1) → Q none (wA (wA (wA h 244 x3 (-1)) 245 x3 (-1)) 245 x3 (aI h (a + 7) ((aI h (b + 1) x3) * 8 + (aI h 243 x3))))) ∧ (¬ aI h (a + 7) ((aI h (b + 1) x3) * 8 + (aI h 243 x3)) = (-1) → (0 ≤ aI h (a + 7) ((aI h (b + 1) x3) * 8 + (aI h 243 x3)) ∧ aI h (a + 7) ((aI h (b + 1) x3) * 8 + (aI h 243 x3)) < 14) ∧ ((¬ aI h (a + 2) (aI h (a + 7) ((aI h (b + 1) x3) * 8 + (aI h 243 x3))) = aI h (b + 1) x3 → Q none (wA (wA (wA h 244 x3 (-1)) 245 x3 (-1)) 245 x3 (aI h (a + 7) ((aI h (b + 1) x3) * 8 + (aI h 243 x3))))) ∧ (aI h (a + 2) (aI h (a + 7) ((aI h (b + 1) x3) * 8 + (aI h 243 x3))) = aI h (b + 1) x3 → Q none (wA (wA (wA h 244 x3 (-1)) 245 x3 (-1)) 244 x3 (aI h (a + 7) ((aI h (b + 1) x3) * 8 + (aI h 243 x3))))))))) ∧ (aI h 243 x3 = (-1) → Q none (wA (wA h 244 x3 (-1)) 245 x3 (-1))))) :
    Ex X PG (d + 1) 100 0 [some (.ref 241), some (.ref a), some (.ref b), some (.int (J x3)), none] [] h Q := by
  refine wpx_ok (cut := []) 46 d 100 0 _ _ _ _ ?_
  show hs h 241 = (0, 1) ∧ ∃ q1, hR h 241 2 = some q1 ∧ (hs h q1).1 = 1 ∧ ix (J x3) (hs h q1).2 ∧ hs (wI h q1 (Int32.toNatClampNeg (J x3)) (J (-1))) 241 = (0, 1) ∧ ∃ q3, hR (wI h q1 (Int32.toNatClampNeg (J x3)) (J (-1))) 241 3 = some q3 ∧ (hs (wI h q1 (Int32.toNatClampNeg (J x3)) (J (-1))) q3).1 = 1 ∧ ix (J x3) (hs (wI h q1 (Int32.toNatClampNeg (J x3)) (J (-1))) q3).2 ∧ hs (wI (wI h q1 (Int32.toNatClampNeg (J x3)) (J (-1))) q3 (Int32.toNatClampNeg (J x3)) (J (-1))) 241 = (0, 1) ∧ ∃ q4, hR (wI (wI h q1 (Int32.toNatClampNeg (J x3)) (J (-1))) q3 (Int32.toNatClampNeg (J x3)) (J (-1))) 241 1 = some q4 ∧ (hs (wI (wI h q1 (Int32.toNatClampNeg (J x3)) (J (-1))) q3 (Int32.toNatClampNeg (J x3)) (J (-1))) q4).1 = 1 ∧ ix (J x3) (hs (wI (wI h q1 (Int32.toNatClampNeg (J x3)) (J (-1))) q3 (Int32.toNatClampNeg (J x3)) (J (-1))) q4).2 ∧ ((¬ (hI (wI (wI h q1 (Int32.toNatClampNeg (J x3)) (J (-1))) q3 (Int32.toNatClampNeg (J x3)) (J (-1))) q4 (Int32.toNatClampNeg (J x3))) = (J (-1)) → hs (wI (wI h q1 (Int32.toNatClampNeg (J x3)) (J (-1))) q3 (Int32.toNatClampNeg (J x3)) (J (-1))) b = (0, 9) ∧ ∃ q7, hR (wI (wI h q1 (Int32.toNatClampNeg (J x3)) (J (-1))) q3 (Int32.toNatClampNeg (J x3)) (J (-1))) b 0 = some q7 ∧ (hs (wI (wI h q1 (Int32.toNatClampNeg (J x3)) (J (-1))) q3 (Int32.toNatClampNeg (J x3)) (J (-1))) q7).1 = 1 ∧ ix (J x3) (hs (wI (wI h q1 (Int32.toNatClampNeg (J x3)) (J (-1))) q3 (Int32.toNatClampNeg (J x3)) (J (-1))) q7).2 ∧ hs (wI (wI h q1 (Int32.toNatClampNeg (J x3)) (J (-1))) q3 (Int32.toNatClampNeg (J x3)) (J (-1))) 241 = (0, 1) ∧ ∃ q8, hR (wI (wI h q1 (Int32.toNatClampNeg (J x3)) (J (-1))) q3 (Int32.toNatClampNeg (J x3)) (J (-1))) 241 1 = some q8 ∧ (hs (wI (wI h q1 (Int32.toNatClampNeg (J x3)) (J (-1))) q3 (Int32.toNatClampNeg (J x3)) (J (-1))) q8).1 = 1 ∧ ix (J x3) (hs (wI (wI h q1 (Int32.toNatClampNeg (J x3)) (J (-1))) q3 (Int32.toNatClampNeg (J x3)) (J (-1))) q8).2 ∧ hs (wI (wI h q1 (Int32.toNatClampNeg (J x3)) (J (-1))) q3 (Int32.toNatClampNeg (J x3)) (J (-1))) a = (0, 2) ∧ Ex X PG d 42 0 [some (.ref a), some (.int (hI (wI (wI h q1 (Int32.toNatClampNeg (J x3)) (J (-1))) q3 (Int32.toNatClampNeg (J x3)) (J (-1))) q7 (Int32.toNatClampNeg (J x3)))), some (.int (hI (wI (wI h q1 (Int32.toNatClampNeg (J x3)) (J (-1))) q3 (Int32.toNatClampNeg (J x3)) (J (-1))) q8 (Int32.toNatClampNeg (J x3))))] [] (wI (wI h q1 (Int32.toNatClampNeg (J x3)) (J (-1))) q3 (Int32.toNatClampNeg (J x3)) (J (-1))) (fun v9 h10 => ∃ r11, v9 = some (.int r11) ∧ ((r11 = (J (-1)) → hs h10 241 = (0, 1) ∧ ∃ q15, hR h10 241 3 = some q15 ∧ (hs h10 q15).1 = 1 ∧ ix (J x3) (hs h10 q15).2 ∧ Q none (wI h10 q15 (Int32.toNatClampNeg (J x3)) r11)) ∧ (¬ (r11 = (J (-1))) → hs h10 a = (0, 2) ∧ ∃ q16, hR h10 a 7 = some q16 ∧ (hs h10 q16).1 = 1 ∧ ix r11 (hs h10 q16).2 ∧ hs h10 b = (0, 9) ∧ ∃ q18, hR h10 b 0 = some q18 ∧ (hs h10 q18).1 = 1 ∧ ix (J x3) (hs h10 q18).2 ∧ ((¬ (hI h10 q16 (Int32.toNatClampNeg r11)) = (hI h10 q18 (Int32.toNatClampNeg (J x3))) → hs h10 241 = (0, 1) ∧ ∃ q21, hR h10 241 3 = some q21 ∧ (hs h10 q21).1 = 1 ∧ ix (J x3) (hs h10 q21).2 ∧ Q none (wI h10 q21 (Int32.toNatClampNeg (J x3)) r11)) ∧ (¬ (¬ (hI h10 q16 (Int32.toNatClampNeg r11)) = (hI h10 q18 (Int32.toNatClampNeg (J x3)))) → hs h10 241 = (0, 1) ∧ ∃ q22, hR h10 241 2 = some q22 ∧ (hs h10 q22).1 = 1 ∧ ix (J x3) (hs h10 q22).2 ∧ Q none (wI h10 q22 (Int32.toNatClampNeg (J x3)) r11))))))) ∧ (¬ (¬ (hI (wI (wI h q1 (Int32.toNatClampNeg (J x3)) (J (-1))) q3 (Int32.toNatClampNeg (J x3)) (J (-1))) q4 (Int32.toNatClampNeg (J x3))) = (J (-1))) → Q none (wI (wI h q1 (Int32.toNatClampNeg (J x3)) (J (-1))) q3 (Int32.toNatClampNeg (J x3)) (J (-1)))))
  have ne_0 : ¬ a + 2 = 244 := by omega
  have ne_1 : ¬ a + 2 = 245 := by omega
  have ne_2 : ¬ a + 7 = 244 := by omega
  have ne_3 : ¬ a + 7 = 245 := by omega
  have ne_4 : ¬ b + 1 = 244 := by omega
  have ne_5 : ¬ b + 1 = 245 := by omega
  try simp only [aI_wAL, fI_wAL, aL_wA, aL_wF, aI_wA_ne, aI_wF_ne, fI_wA_ne, fI_wF_ne, fI_wF_nk, aL_wAL_ne, J_sameA, J_sameF, aL_same, Nat.add_left_cancel_iff, Nat.add_eq_left, Nat.left_eq_add, not_false_eq_true, Nat.reduceEqDiff, ne_0, ne_1, ne_2, ne_3, ne_4, ne_5, Nat.reduceAdd, J_add, J_sub, J_mul, J_neg, J_and, J_or, J_xor, J_shl, J_shr, J_div, J_i2b, J_i2l, J_l2i, J_lcm, J_max, J_min, J_nab, J_nao, rdA, rdF, rdL, wA_fold, wF_fold, wL_fold, wC_fold]
  refine ⟨(ls241 C_h), _, (lr241_2 C_h), ?_⟩
  obtain ⟨k2, w⟩ := w
  refine ⟨congrArg Prod.fst (ls244 C_h), ixs (ls244 C_h) k2 (by decide), ?_⟩
  refine ⟨(ls241 C_h), _, (lr241_3 C_h), ?_⟩
  refine ⟨congrArg Prod.fst (ls245 C_h), ixs (ls245 C_h) k2 (by decide), ?_⟩
  refine ⟨(ls241 C_h), _, (lr241_1 C_h), ?_⟩
  refine ⟨congrArg Prod.fst (ls243 C_h), ixs (ls243 C_h) k2 (by decide), ?_⟩
  try simp only [aI_wAL, fI_wAL, aL_wA, aL_wF, aI_wA_ne, aI_wF_ne, fI_wA_ne, fI_wF_ne, fI_wF_nk, aL_wAL_ne, J_sameA, J_sameF, aL_same, Nat.add_left_cancel_iff, Nat.add_eq_left, Nat.left_eq_add, not_false_eq_true, Nat.reduceEqDiff, ne_0, ne_1, ne_2, ne_3, ne_4, ne_5, Nat.reduceAdd]
  refine ⟨fun c5 => ?_, fun c5 => ?_⟩
  · have t6 : ¬ aI h 243 x3 = (-1) := (fun e => c5 ((Jeq (rg_toInt _) (by decide)).mpr e))
    replace w := w.1 t6
    refine ⟨(world_0 K_h_1), _, (world_6 K_h_1), ?_⟩
    refine ⟨congrArg Prod.fst (world_1 K_h_1), ixs (world_1 K_h_1) k2 (by decide), ?_⟩
    try simp only [aI_wAL, fI_wAL, aL_wA, aL_wF, aI_wA_ne, aI_wF_ne, fI_wA_ne, fI_wF_ne, fI_wF_nk, aL_wAL_ne, J_sameA, J_sameF, aL_same, Nat.add_left_cancel_iff, Nat.add_eq_left, Nat.left_eq_add, not_false_eq_true, Nat.reduceEqDiff, ne_0, ne_1, ne_2, ne_3, ne_4, ne_5, Nat.reduceAdd]
    refine ⟨(ls241 C_h), _, (lr241_1 C_h), ?_⟩
    refine ⟨congrArg Prod.fst (ls243 C_h), ixs (ls243 C_h) k2 (by decide), ?_⟩
    try simp only [aI_wAL, fI_wAL, aL_wA, aL_wF, aI_wA_ne, aI_wF_ne, fI_wA_ne, fI_wF_ne, fI_wF_nk, aL_wAL_ne, J_sameA, J_sameF, aL_same, Nat.add_left_cancel_iff, Nat.add_eq_left, Nat.left_eq_add, not_false_eq_true, Nat.reduceEqDiff, ne_0, ne_1, ne_2, ne_3, ne_4, ne_5, Nat.reduceAdd]
    refine ⟨(plan_0 K_h_0), ?_⟩
    obtain ⟨k12, w⟩ := w
    refine m42 (h := wA (wA h 244 x3 (-1)) 245 x3 (-1)) (a := a) (x := (aI h (b + 1) x3)) (y := (aI h 243 x3)) C_h K_h_0 (by omega) (by first | exact k12 | (simp only [aI_wAL, fI_wAL, aL_wA, aL_wF, aI_wA_ne, aI_wF_ne, fI_wA_ne, fI_wF_ne, fI_wF_nk, aL_wAL_ne, Nat.add_left_cancel_iff, Nat.add_eq_left, Nat.left_eq_add, not_false_eq_true, Nat.reduceEqDiff, ne_0, ne_1, ne_2, ne_3, ne_4, ne_5]; exact k12)) ?_
    refine ⟨_, rfl, ?_⟩
    try simp only [aI_wAL, fI_wAL, aL_wA, aL_wF, aI_wA_ne, aI_wF_ne, fI_wA_ne, fI_wF_ne, fI_wF_nk, aL_wAL_ne, J_sameA, J_sameF, aL_same, Nat.add_left_cancel_iff, Nat.add_eq_left, Nat.left_eq_add, not_false_eq_true, Nat.reduceEqDiff, ne_0, ne_1, ne_2, ne_3, ne_4, ne_5, Nat.reduceAdd, J_add, J_sub, J_mul, J_neg, J_and, J_or, J_xor, J_shl, J_shr, J_div, J_i2b, J_i2l, J_l2i, J_lcm, J_max, J_min, J_nab, J_nao, rdA, rdF, rdL, wA_fold, wF_fold, wL_fold, wC_fold]
    refine ⟨fun c13 => ?_, fun c13 => ?_⟩
    · have t14 : aI h (a + 7) ((aI h (b + 1) x3) * 8 + (aI h 243 x3)) = (-1) := ((Jeq (rg_toInt _) (by decide)).mp c13)
      replace w := w.1 t14
      refine ⟨(ls241 C_h), _, (lr241_3 C_h), ?_⟩
      refine ⟨congrArg Prod.fst (ls245 C_h), ixs (ls245 C_h) k2 (by decide), ?_⟩
      exact w
    · have t14 : ¬ aI h (a + 7) ((aI h (b + 1) x3) * 8 + (aI h 243 x3)) = (-1) := (fun e => c13 ((Jeq (rg_toInt _) (by decide)).mpr e))
      replace w := w.2 t14
      refine ⟨(plan_0 K_h_0), _, (plan_12 K_h_0), ?_⟩
      obtain ⟨k17, w⟩ := w
      refine ⟨congrArg Prod.fst (plan_2 K_h_0), ixs (plan_2 K_h_0) k17 (by decide), ?_⟩
      try simp only [aI_wAL, fI_wAL, aL_wA, aL_wF, aI_wA_ne, aI_wF_ne, fI_wA_ne, fI_wF_ne, fI_wF_nk, aL_wAL_ne, J_sameA, J_sameF, aL_same, Nat.add_left_cancel_iff, Nat.add_eq_left, Nat.left_eq_add, not_false_eq_true, Nat.reduceEqDiff, ne_0, ne_1, ne_2, ne_3, ne_4, ne_5, Nat.reduceAdd]
      refine ⟨(world_0 K_h_1), _, (world_6 K_h_1), ?_⟩
      refine ⟨congrArg Prod.fst (world_1 K_h_1), ixs (world_1 K_h_1) k2 (by decide), ?_⟩
      try simp only [aI_wAL, fI_wAL, aL_wA, aL_wF, aI_wA_ne, aI_wF_ne, fI_wA_ne, fI_wF_ne, fI_wF_nk, aL_wAL_ne, J_sameA, J_sameF, aL_same, Nat.add_left_cancel_iff, Nat.add_eq_left, Nat.left_eq_add, not_false_eq_true, Nat.reduceEqDiff, ne_0, ne_1, ne_2, ne_3, ne_4, ne_5, Nat.reduceAdd]
      refine ⟨fun c19 => ?_, fun c19 => ?_⟩
      · have t20 : ¬ aI h (a + 2) (aI h (a + 7) ((aI h (b + 1) x3) * 8 + (aI h 243 x3))) = aI h (b + 1) x3 := (fun e => c19 ((Jeq (rg_toInt _) (rg_toInt _)).mpr e))
        replace w := w.1 t20
        refine ⟨(ls241 C_h), _, (lr241_3 C_h), ?_⟩
        refine ⟨congrArg Prod.fst (ls245 C_h), ixs (ls245 C_h) k2 (by decide), ?_⟩
        exact w
      · have t20 : aI h (a + 2) (aI h (a + 7) ((aI h (b + 1) x3) * 8 + (aI h 243 x3))) = aI h (b + 1) x3 := ((Jeq (rg_toInt _) (rg_toInt _)).mp (Classical.byContradiction c19))
        replace w := w.2 t20
        refine ⟨(ls241 C_h), _, (lr241_2 C_h), ?_⟩
        refine ⟨congrArg Prod.fst (ls244 C_h), ixs (ls244 C_h) k2 (by decide), ?_⟩
        exact w
  · have t6 : aI h 243 x3 = (-1) := ((Jeq (rg_toInt _) (by decide)).mp (Classical.byContradiction c5))
    replace w := w.2 t6
    exact w
/-- the door of the room that is willed is the door that is willed -/
theorem tgt_door {S : Int → Int} (W : WF 999 S) {n : Int64} {p : Int} (hp : 0 ≤ p ∧ p < S 2) : (tgt S n p = -1 ∧ wdoN S n p = -1) ∨ (0 ≤ tgt S n p ∧ tgt S n p < 8 ∧ dbt S (pS S p 0) (tgt S n p) = wdoN S n p ∧ 0 ≤ wdoN S n p) := by
  have bb := W.1
  unfold WFb at bb
  have no : 0 < n → ¬ n < 0 := fun x y => by rw [Int64.lt_iff_toInt_lt] at x y; omega
  unfold tgt wdoN
  by_cases c : 0 < n
  · rw [if_pos c, if_neg (no c), if_pos c]
    rcases stp_b W (nightP S) (pS S p 0) (pS S p 1) with q | q
    · rw [if_pos (by omega)]; exact Or.inl ⟨q, rfl⟩
    · rw [if_neg (by omega)]
      have ad := (dbt_adj W).mp q.2.2
      rcases lst_or (dbtP S (pS S p 0) (stp S (nightP S) (pS S p 0) (pS S p 1))) with z | z
      · exact absurd z ad.1
      · exact Or.inr ⟨q.1, by omega, rfl, z.1⟩
  · rw [if_neg c]
    by_cases c2 : n < 0
    · rw [if_pos c2, if_pos c2]
      have z : fou S (nightP S) (pS S p 0) = -1 ∨ 0 ≤ fou S (nightP S) (pS S p 0) ∧ fouP S (nightP S) (pS S p 0) (fou S (nightP S) (pS S p 0)) := lst_or (fouP S (nightP S) (pS S p 0))
      rcases z with z | z
      · rw [if_pos z]; exact Or.inl ⟨rfl, z⟩
      · rw [if_neg (by omega)]
        have dd := W.2.2.2.1 _ z.1 z.2.1
        refine Or.inr ⟨by omega, by omega, dbt_eq W z.1 ⟨z.2.1, Or.inl ⟨z.2.2.2, rfl⟩⟩, z.1⟩
    · rw [if_neg c2, if_neg c2, if_neg c]; exact Or.inl ⟨rfl, rfl⟩
theorem m100 {X : Cst} {d : Nat} {a b : Nat} {p : Int} {n : Int64} {S : Int → Int} {h : AH} {Q : Post} (C : Lay h) (K : PlanAt h a) (L : WorldAt h b) (apa : a = 4 ∨ a = 4 ∨ a = 53 ∨ 281 ≤ a) (apb : b = 64 ∨ b = 114) (hd : 2 ≤ d) (P : PlanRep h a S) (R : WorldRep h b S) (W : WF 999 S) (hp : 0 ≤ p ∧ p < S 2) (ht : aI h 243 p = tgt S n p)
    (k : ∀ h', SH h h' → (Fr (fun c _ => c = 244 ∨ c = 245) h h' ∧ aI h' 244 = uu_ (aI h 244) p (@ite Int (0 ≤ wdoN S n p ∧ nr S (wdoN S n p) = pS S p 0) (Classical.propDecidable _) (wdoN S n p) (-1)) ∧ aI h' 245 = uu_ (aI h 245) p (@ite Int (0 ≤ wdoN S n p ∧ nr S (wdoN S n p) = pS S p 0) (Classical.propDecidable _) (-1) (wdoN S n p))) → Q none h') : Ex X PG d 100 0 [some (.ref 241), some (.ref a), some (.ref b), some (.int (J p)), none] [] h Q := by
  obtain ⟨d, rfl⟩ : ∃ e, d = e + 1 := ⟨d - 1, by omega⟩
  have bb := W.1
  unfold WFb at bb
  have pp := W.2.1 p hp.1 hp.2
  have rp := R.1 p hp.1 hp.2
  have wb := wdoN_b W n p
  have uu2 : ∀ (U : Int → Int) (x y : Int), uu_ (uu_ U p x) p y = uu_ U p y := by
    intro U x y; funext j; unfold uu_; by_cases z : tn j = tn p
    · rw [if_pos z, if_pos z]
    · rw [if_neg z, if_neg z, if_neg z]
  refine r100_0 C K L apa apb (by omega) ?_
  rw [ht, rp.1]
  rcases tgt_door W (n := n) hp with t | t
  · refine ⟨by omega, fun c => absurd t.1 c, fun _ => ?_⟩
    refine k _ (by exact SH.rf) ⟨((Fr.rf (T := fun c _ => c = 244 ∨ c = 245)).wA (Or.inl rfl)).wA (Or.inr rfl), ?_, ?_⟩
    · rw [aI_wA_ne (by decide), aI_wA (by decide), if_neg (by omega)]
    · rw [aI_wA (by decide), aI_wA_ne (by decide), if_neg (by omega), t.2]
  · have wl : wdoN S n p < S 1 := by omega
    rw [P.2.2.2.2.2.1 _ _ pp.1 (by omega) t.1 t.2.1, t.2.2.1, (P.2.2.2.1 _ t.2.2.2 wl).1]
    refine ⟨by omega, fun _ => ⟨by omega, fun c => absurd c (by omega), fun _ => ⟨by omega, fun c => ?_, fun c => ?_⟩⟩, fun c => absurd c (by omega)⟩
    · refine k _ (by exact SH.rf) ⟨(((Fr.rf (T := fun c _ => c = 244 ∨ c = 245)).wA (Or.inl rfl)).wA (Or.inr rfl)).wA (Or.inr rfl), ?_, ?_⟩
      · rw [aI_wA_ne (by decide), aI_wA_ne (by decide), aI_wA (by decide), if_neg (fun z => c z.2)]
      · rw [aI_wA (by omega), aI_wA (by decide), aI_wA_ne (by decide), if_neg (fun z => c z.2), uu2]
    · refine k _ (by exact SH.rf) ⟨(((Fr.rf (T := fun c _ => c = 244 ∨ c = 245)).wA (Or.inl rfl)).wA (Or.inr rfl)).wA (Or.inl rfl), ?_, ?_⟩
      · rw [aI_wA (by omega), aI_wA_ne (by decide), aI_wA (by decide), if_pos ⟨t.2.2.2, c⟩, uu2]
      · rw [aI_wA_ne (by decide), aI_wA (by decide), aI_wA_ne (by decide), if_pos ⟨t.2.2.2, c⟩]
