/-! THE CLASS: the mover's doors; who goes out, who comes in. -/
def TkA (A : Int → Int) (r : Int) : Int → Int := if r = -1 then A else uu_ A r (-1)
-- OutwardDoors$Mover.takeOpener(II)I at 0
set_option maxRecDepth 20000 in
set_option maxHeartbeats 4000000 in
theorem r104_0 {X : Cst} {d : Nat} {x1 : Int} {x2 : Int} {h : AH} {Q : Post} (C_h : Lay h)
  (w : Ex X PG (d + 1) 104 2 [some (.ref 241), some (.int (J x1)), some (.int (J x2)), some (.int (J 0))] [] h Q) :
    Ex X PG (d + 1) 104 0 [some (.ref 241), some (.int (J x1)), some (.int (J x2)), none] [] h Q := by
  refine wpx_ok (cut := [2]) 2 d 104 0 _ _ _ _ ?_
  show Ex X PG (d + 1) 104 2 [some (.ref 241), some (.int (J x1)), some (.int (J x2)), some (.int (J 0))] [] h Q
  try simp only [aI_wAL, fI_wAL, aL_wA, aL_wF, aI_wA_ne, aI_wF_ne, fI_wA_ne, fI_wF_ne, fI_wF_nk, aL_wAL_ne, J_sameA, J_sameF, aL_same, Nat.add_left_cancel_iff, Nat.add_eq_left, Nat.left_eq_add, not_false_eq_true, Nat.reduceEqDiff, Nat.reduceAdd, J_add, J_sub, J_mul, J_neg, J_and, J_or, J_xor, J_shl, J_shr, J_div, J_i2b, J_i2l, J_l2i, J_lcm, J_max, J_min, J_nab, J_nao, rdA, rdF, rdL, wA_fold, wF_fold, wL_fold, wC_fold]
  exact w
-- OutwardDoors$Mover.takeOpener(II)I at 2
set_option maxRecDepth 20000 in
set_option maxHeartbeats 4000000 in
theorem r104_2 {X : Cst} {d : Nat} {x1 : Int} {x2 : Int} {x3 : Int} {h : AH} {Q : Post} (C_h : Lay h)
  (w : (-2147483648 ≤ x3 ∧ x3 < 2147483648) ∧ (-2147483648 ≤ x1 ∧ x1 < 2147483648) ∧ ((x1 ≤ x3 → Q (some (.int (J (-1)))) h) ∧ (¬ x1 ≤ x3 → (0 ≤ x3 ∧ x3 < 4) ∧ (-2147483648 ≤ x2 ∧ x2 < 2147483648) ∧ ((¬ aI h 244 x3 = x2 → Ex X PG (d + 1) 104 2 [some (.ref 241), some (.int (J x1)), some (.int (J x2)), some (.int (J (x3 + 1)))] [] h Q) ∧ (aI h 244 x3 = x2 → Q (some (.int (J x3))) (wA h 244 x3 (-1))))))) :
    Ex X PG (d + 1) 104 2 [some (.ref 241), some (.int (J x1)), some (.int (J x2)), some (.int (J x3))] [] h Q := by
  refine wpx_ok (cut := [2]) 16 d 104 2 _ _ _ _ ?_
  show (((J x1) ≤ (J x3) → Q (some (.int (J (-1)))) h) ∧ (¬ ((J x1) ≤ (J x3)) → hs h 241 = (0, 1) ∧ ∃ q5, hR h 241 2 = some q5 ∧ (hs h q5).1 = 1 ∧ ix (J x3) (hs h q5).2 ∧ ((¬ (hI h q5 (Int32.toNatClampNeg (J x3))) = (J x2) → Ex X PG (d + 1) 104 2 [some (.ref 241), some (.int (J x1)), some (.int (J x2)), some (.int ((J x3) + (J 1)))] [] h Q) ∧ (¬ (¬ (hI h q5 (Int32.toNatClampNeg (J x3))) = (J x2)) → hs h 241 = (0, 1) ∧ ∃ q10, hR h 241 2 = some q10 ∧ (hs h q10).1 = 1 ∧ ix (J x3) (hs h q10).2 ∧ Q (some (.int (J x3))) (wI h q10 (Int32.toNatClampNeg (J x3)) (J (-1)))))))
  try simp only [aI_wAL, fI_wAL, aL_wA, aL_wF, aI_wA_ne, aI_wF_ne, fI_wA_ne, fI_wF_ne, fI_wF_nk, aL_wAL_ne, J_sameA, J_sameF, aL_same, Nat.add_left_cancel_iff, Nat.add_eq_left, Nat.left_eq_add, not_false_eq_true, Nat.reduceEqDiff, Nat.reduceAdd, J_add, J_sub, J_mul, J_neg, J_and, J_or, J_xor, J_shl, J_shr, J_div, J_i2b, J_i2l, J_l2i, J_lcm, J_max, J_min, J_nab, J_nao, rdA, rdF, rdL, wA_fold, wF_fold, wL_fold, wC_fold]
  obtain ⟨k3, w⟩ := w
  obtain ⟨k4, w⟩ := w
  refine ⟨fun c1 => ?_, fun c1 => ?_⟩
  · have t2 : x1 ≤ x3 := ((Jle k4 k3).mp c1)
    replace w := w.1 t2
    exact w
  · have t2 : ¬ x1 ≤ x3 := (fun e => c1 ((Jle k4 k3).mpr e))
    replace w := w.2 t2
    refine ⟨(ls241 C_h), _, (lr241_2 C_h), ?_⟩
    obtain ⟨k6, w⟩ := w
    refine ⟨congrArg Prod.fst (ls244 C_h), ixs (ls244 C_h) k6 (by decide), ?_⟩
    obtain ⟨k9, w⟩ := w
    refine ⟨fun c7 => ?_, fun c7 => ?_⟩
    · have t8 : ¬ aI h 244 x3 = x2 := (fun e => c7 ((Jeq (rg_toInt _) k9).mpr e))
      replace w := w.1 t8
      exact w
    · have t8 : aI h 244 x3 = x2 := ((Jeq (rg_toInt _) k9).mp (Classical.byContradiction c7))
      replace w := w.2 t8
      refine ⟨(ls241 C_h), _, (lr241_2 C_h), ?_⟩
      refine ⟨congrArg Prod.fst (ls244 C_h), ixs (ls244 C_h) k6 (by decide), ?_⟩
      exact w
theorem m104 {X : Cst} {d : Nat} {n x : Int} {h : AH} {Q : Post} (C : Lay h) (hd : 1 ≤ d) (hn : 0 ≤ n ∧ n ≤ 4) (hx : -2147483648 ≤ x ∧ x < 2147483648)
    (k : ∀ h', SH h h' → (Fr (fun c _ => c = 244) h h' ∧ aI h' 244 = TkA (aI h 244) (lst fun q => q < n ∧ aI h 244 q = x)) → Q (some (.int (J (lst fun q => q < n ∧ aI h 244 q = x)))) h') : Ex X PG d 104 0 [some (.ref 241), some (.int (J n)), some (.int (J x)), none] [] h Q := by
  obtain ⟨d, rfl⟩ : ∃ e, d = e + 1 := ⟨d - 1, by omega⟩
  have lp : ∀ (m : Nat) (i : Int), n - i = m → 0 ≤ i → (∀ q, 0 ≤ q → q < i → ¬ aI h 244 q = x) → Ex X PG (d + 1) 104 2 [some (.ref 241), some (.int (J n)), some (.int (J x)), some (.int (J i))] [] h Q := by
    intro m
    induction m with
    | zero =>
      intro i h1 h2 h3
      refine r104_2 C ⟨by omega, by omega, fun _ => ?_, fun c => absurd (by omega) c⟩
      have e : (lst fun q => q < n ∧ aI h 244 q = x) = -1 := lst_no fun u hu z => h3 u hu (by omega) z.2
      rw [e] at k
      exact k h SH.rf ⟨Fr.rf, rfl⟩
    | succ m ih =>
      intro i h1 h2 h3
      refine r104_2 C ⟨by omega, by omega, fun c => absurd c (by omega), fun _ => ⟨by omega, hx, fun c => ?_, fun c => ?_⟩⟩
      · refine ih (i + 1) (by omega) (by omega) (fun q a b => ?_)
        by_cases e : q = i
        · subst e; exact c
        · exact h3 q a (by omega)
      · have e : (lst fun q => q < n ∧ aI h 244 q = x) = i := lst_eq h2 ⟨by omega, c⟩ fun u hu z => by
          by_cases l : u < i
          · exact absurd z.2 (h3 u hu l)
          · omega
        rw [e] at k
        refine k _ (by exact SH.rf) ⟨(Fr.rf (T := fun c _ => c = 244)).wA rfl, ?_⟩
        rw [aI_wA (by decide)]
        unfold TkA
        rw [if_neg (by omega)]
  exact r104_0 C (lp n.toNat 0 (by omega) (by omega) (fun q a b => by omega))
def WCells (h : AH) (b : Nat) (S : Int → Int) (F : Int → Int → Int) : Prop := ∀ p, 0 ≤ p → p < S 2 → aI h (b + 1) p = F p 0 ∧ aI h (b + 2) p = F p 1 ∧ aI h (b + 3) p = F p 3 ∧ aI h (b + 4) p = F p 4 ∧ aI h (b + 5) p = F p 5
def Rst (h : AH) (b : Nat) (S : Int → Int) : Prop := ∀ p, S 2 ≤ p → p < 4 → aI h (b + 3) p = 0 ∧ aI h (b + 4) p = 0
/-- where the mover keeps who goes out, who wills to come in -/
def OutB (h : AH) (S D : Int → Int) (i : Int) : Prop := ∀ q, 0 ≤ q → q < S 2 → aI h 244 q = @ite Int (gO S D q ∧ ¬ cnt (ouB S D (D q)) q < cnt (inB S D (D q)) i) (Classical.propDecidable _) (D q) (-1)
def InB (h : AH) (S D : Int → Int) : Prop := ∀ q, 0 ≤ q → q < S 2 → aI h 245 q = @ite Int (gO S D q) (Classical.propDecidable _) (-1) (D q)
-- OutwardDoors$Mover.goOut(LOutwardDoors$Plan;LOutwardDoors$World;)V at 0
set_option maxRecDepth 20000 in
set_option maxHeartbeats 4000000 in
theorem r101_0 {X : Cst} {d : Nat} {a : Nat} {b : Nat} {h : AH} {Q : Post} (C_h : Lay h) (K_h_0 : PlanAt h a) (K_h_1 : WorldAt h b) (apa : a = 4 ∨ a = 4 ∨ a = 53 ∨ 281 ≤ a) (apb : b = 64 ∨ b = 114)
  (w : Ex X PG (d + 1) 101 2 [some (.ref 241), some (.ref a), some (.ref b), some (.int (J 0))] [] h Q) :
    Ex X PG (d + 1) 101 0 [some (.ref 241), some (.ref a), some (.ref b), none] [] h Q := by
  refine wpx_ok (cut := [2]) 2 d 101 0 _ _ _ _ ?_
  show Ex X PG (d + 1) 101 2 [some (.ref 241), some (.ref a), some (.ref b), some (.int (J 0))] [] h Q
  try simp only [aI_wAL, fI_wAL, aL_wA, aL_wF, aI_wA_ne, aI_wF_ne, fI_wA_ne, fI_wF_ne, fI_wF_nk, aL_wAL_ne, J_sameA, J_sameF, aL_same, Nat.add_left_cancel_iff, Nat.add_eq_left, Nat.left_eq_add, not_false_eq_true, Nat.reduceEqDiff, Nat.reduceAdd, J_add, J_sub, J_mul, J_neg, J_and, J_or, J_xor, J_shl, J_shr, J_div, J_i2b, J_i2l, J_l2i, J_lcm, J_max, J_min, J_nab, J_nao, rdA, rdF, rdL, wA_fold, wF_fold, wL_fold, wC_fold]
  exact w
-- OutwardDoors$Mover.goOut(LOutwardDoors$Plan;LOutwardDoors$World;)V at 2
set_option maxRecDepth 20000 in
set_option maxHeartbeats 4000000 in
theorem r101_2 {X : Cst} {d : Nat} {a : Nat} {b : Nat} {x3 : Int} {h : AH} {Q : Post} (C_h : Lay h) (K_h_0 : PlanAt h a) (K_h_1 : WorldAt h b) (apa : a = 4 ∨ a = 4 ∨ a = 53 ∨ 281 ≤ a) (apb : b = 64 ∨ b = 114) (hd : 1 ≤ d)
  (w : (-2147483648 ≤ x3 ∧ x3 < 2147483648) ∧ ((fI h a 2 ≤ x3 → Q none h) ∧ (¬ fI h a 2 ≤ x3 → (0 ≤ x3 ∧ x3 < 4) ∧ ((aI h 244 x3 = (-1) → Ex X PG (d + 1) 101 2 [some (.ref 241), some (.ref a), some (.ref b), some (.int (J (x3 + 1)))] [] h Q) ∧ (¬ aI h 244 x3 = (-1) → (0 ≤ aI h 244 x3 ∧ aI h 244 x3 < 14) ∧ Ex X PG (d + 1) 101 2 [some (.ref 241), some (.ref a), some (.ref b), some (.int (J (x3 + 1)))] [] (wF (wA (wA h (b + 1) x3 (aI h (a + 3) (aI h 244 x3))) (b + 4) x3 (aI h (b + 4) x3 + 1)) 241 6 ((fI h 241 6) + 1)) Q))))) :
    Ex X PG (d + 1) 101 2 [some (.ref 241), some (.ref a), some (.ref b), some (.int (J x3))] [] h Q := by
  refine wpx_ok (cut := [2]) 28 d 101 2 _ _ _ _ ?_
  show hs h a = (0, 2) ∧ (((hF h a 2) ≤ (J x3) → Q none h) ∧ (¬ ((hF h a 2) ≤ (J x3)) → hs h 241 = (0, 1) ∧ ∃ q4, hR h 241 2 = some q4 ∧ (hs h q4).1 = 1 ∧ ix (J x3) (hs h q4).2 ∧ (((hI h q4 (Int32.toNatClampNeg (J x3))) = (J (-1)) → Ex X PG (d + 1) 101 2 [some (.ref 241), some (.ref a), some (.ref b), some (.int ((J x3) + (J 1)))] [] h Q) ∧ (¬ ((hI h q4 (Int32.toNatClampNeg (J x3))) = (J (-1))) → hs h a = (0, 2) ∧ ∃ q8, hR h a 8 = some q8 ∧ hs h 241 = (0, 1) ∧ ∃ q9, hR h 241 2 = some q9 ∧ (hs h q9).1 = 1 ∧ ix (J x3) (hs h q9).2 ∧ (hs h q8).1 = 1 ∧ ix (hI h q9 (Int32.toNatClampNeg (J x3))) (hs h q8).2 ∧ hs h b = (0, 9) ∧ Ex X PG d 102 0 [some (.ref b), some (.int (J x3)), some (.int (hI h q8 (Int32.toNatClampNeg (hI h q9 (Int32.toNatClampNeg (J x3))))))] [] h (fun v11 h12 => v11 = none ∧ hs h12 241 = (0, 1) ∧ hs h12 241 = (0, 1) ∧ Ex X PG (d + 1) 101 2 [some (.ref 241), some (.ref a), some (.ref b), some (.int ((J x3) + (J 1)))] [] (wG h12 241 6 ((hF h12 241 6) + (J 1))) Q)))))
  have ne_0 : ¬ 241 = b + 1 := by omega
  have ne_1 : ¬ 241 = b + 4 := by omega
  try simp only [aI_wAL, fI_wAL, aL_wA, aL_wF, aI_wA_ne, aI_wF_ne, fI_wA_ne, fI_wF_ne, fI_wF_nk, aL_wAL_ne, J_sameA, J_sameF, aL_same, Nat.add_left_cancel_iff, Nat.add_eq_left, Nat.left_eq_add, not_false_eq_true, Nat.reduceEqDiff, ne_0, ne_1, Nat.reduceAdd, J_add, J_sub, J_mul, J_neg, J_and, J_or, J_xor, J_shl, J_shr, J_div, J_i2b, J_i2l, J_l2i, J_lcm, J_max, J_min, J_nab, J_nao, rdA, rdF, rdL, wA_fold, wF_fold, wL_fold, wC_fold]
  refine ⟨(plan_0 K_h_0), ?_⟩
  obtain ⟨k3, w⟩ := w
  refine ⟨fun c1 => ?_, fun c1 => ?_⟩
  · have t2 : fI h a 2 ≤ x3 := ((Jle (rg_toInt _) k3).mp c1)
    replace w := w.1 t2
    exact w
  · have t2 : ¬ fI h a 2 ≤ x3 := (fun e => c1 ((Jle (rg_toInt _) k3).mpr e))
    replace w := w.2 t2
    refine ⟨(ls241 C_h), _, (lr241_2 C_h), ?_⟩
    obtain ⟨k5, w⟩ := w
    refine ⟨congrArg Prod.fst (ls244 C_h), ixs (ls244 C_h) k5 (by decide), ?_⟩
    refine ⟨fun c6 => ?_, fun c6 => ?_⟩
    · have t7 : aI h 244 x3 = (-1) := ((Jeq (rg_toInt _) (by decide)).mp c6)
      replace w := w.1 t7
      exact w
    · have t7 : ¬ aI h 244 x3 = (-1) := (fun e => c6 ((Jeq (rg_toInt _) (by decide)).mpr e))
      replace w := w.2 t7
      refine ⟨(plan_0 K_h_0), _, (plan_13 K_h_0), ?_⟩
      refine ⟨(ls241 C_h), _, (lr241_2 C_h), ?_⟩
      refine ⟨congrArg Prod.fst (ls244 C_h), ixs (ls244 C_h) k5 (by decide), ?_⟩
      obtain ⟨k10, w⟩ := w
      refine ⟨congrArg Prod.fst (plan_3 K_h_0), ixs (plan_3 K_h_0) k10 (by decide), ?_⟩
      refine ⟨(world_0 K_h_1), ?_⟩
      refine m102 (h := h) (a := b) (p := x3) (t := (aI h (a + 3) (aI h 244 x3))) C_h K_h_1 (by omega) k5 ?_
      refine ⟨rfl, ?_⟩
      try simp only [aI_wAL, fI_wAL, aL_wA, aL_wF, aI_wA_ne, aI_wF_ne, fI_wA_ne, fI_wF_ne, fI_wF_nk, aL_wAL_ne, J_sameA, J_sameF, aL_same, Nat.add_left_cancel_iff, Nat.add_eq_left, Nat.left_eq_add, not_false_eq_true, Nat.reduceEqDiff, ne_0, ne_1, Nat.reduceAdd, J_add, J_sub, J_mul, J_neg, J_and, J_or, J_xor, J_shl, J_shr, J_div, J_i2b, J_i2l, J_l2i, J_lcm, J_max, J_min, J_nab, J_nao, rdA, rdF, rdL, wA_fold, wF_fold, wL_fold, wC_fold]
      refine ⟨(ls241 C_h), ?_⟩
      refine ⟨(ls241 C_h), ?_⟩
      exact w
theorem m101 {X : Cst} {d : Nat} {a b : Nat} {S D : Int → Int} {h : AH} {Q : Post} (C : Lay h) (K : PlanAt h a) (L : WorldAt h b) (apa : a = 4 ∨ a = 4 ∨ a = 53 ∨ 281 ≤ a) (apb : b = 64 ∨ b = 114) (hd : 2 ≤ d) (P : PlanRep h a S) (W : WF 999 S) (hD : ∀ p, 0 ≤ p → p < S 2 → D p = -1 ∨ (0 ≤ D p ∧ D p < S 1))
    (O : OutB h S D 0) (w : WCells h b S (pS S)) (r : Rst h b S) (h6 : fI h 241 6 = 0)
    (k : ∀ h', SH h h' → (Fr (fun c k => (b < c ∧ c ≤ b + 5) ∨ (c = 241 ∧ k = 6)) h h' ∧ WCells h' b S (pclg S D (gO S D) (fun _ => False)) ∧ Rst h' b S ∧ fI h' 241 6 = cnt (gO S D) (S 2)) → Q none h') : Ex X PG d 101 0 [some (.ref 241), some (.ref a), some (.ref b), none] [] h Q := by
  obtain ⟨d, rfl⟩ : ∃ e, d = e + 1 := ⟨d - 1, by omega⟩
  have bb := W.1
  unfold WFb at bb
  have lp : ∀ (n : Nat) (i : Int) (h' : AH), Fr (fun c k => (b < c ∧ c ≤ b + 5) ∨ (c = 241 ∧ k = 6)) h h' → S 2 - i = n → 0 ≤ i → WCells h' b S (pclg S D (fun p => gO S D p ∧ p < i) (fun _ => False)) → Rst h' b S → fI h' 241 6 = cnt (gO S D) i → Ex X PG (d + 1) 101 2 [some (.ref 241), some (.ref a), some (.ref b), some (.int (J i))] [] h' Q := by
    intro n
    induction n with
    | zero =>
      intro i h' F h1 h2 w r c6
      have P' := P.fr F (fun c k z => by omega)
      refine r101_2 (F.C C) (PlanAt_SH F.1 K) (WorldAt_SH F.1 L) apa apb (by omega) ?_
      rw [P'.1.2.2.1]
      refine ⟨by omega, fun _ => k h' F.1 ⟨F, fun p p0 p1 => ?_, r, by rw [c6, show i = S 2 by omega]⟩, fun c => absurd (by omega) c⟩
      have e : ∀ u, pclg S D (gO S D) (fun _ => False) p u = pclg S D (fun p => gO S D p ∧ p < i) (fun _ => False) p u := fun u => pclg_cong ⟨fun z => ⟨z, by omega⟩, fun z => z.1⟩ Iff.rfl
      rw [e, e, e, e, e]
      exact w p p0 p1
    | succ n ih =>
      intro i h' F h1 h2 w r c6
      have P' := P.fr F (fun c k z => by omega)
      have oi : aI h' 244 i = @ite Int (gO S D i) (Classical.propDecidable _) (D i) (-1) := by
        rw [F.a 244 (fun k z => by omega), O i h2 (by omega)]
        have c0 : ¬ cnt (ouB S D (D i)) i < cnt (inB S D (D i)) 0 := by rw [cnt_0]; have := (cnt_b (ouB S D (D i)) h2).1; omega
        by_cases g : gO S D i
        · rw [if_pos ⟨g, c0⟩, if_pos g]
        · rw [if_neg (fun z => g z.1), if_neg g]
      have cs := cnt_s (gO S D) h2
      refine r101_2 (F.C C) (PlanAt_SH F.1 K) (WorldAt_SH F.1 L) apa apb (by omega) ?_
      rw [P'.1.2.2.1, oi]
      by_cases g : gO S D i
      · have db := (hD i h2 (by omega)).resolve_left (fun z => by have := g.1; omega)
        have wi := w i h2 (by omega)
        have pi := W.2.1 i h2 (by omega)
        rw [if_pos g, (P'.2.2.2.1 (D i) db.1 db.2).2, c6, wi.2.2.2.1]
        rw [bI_pos g] at cs
        have cb := cnt_b (gO S D) h2
        have dd := W.2.2.2.1 (D i) db.1 db.2
        have e4 : pclg S D (fun p => gO S D p ∧ p < i) (fun _ => False) i 4 = pS S i 4 := by
          unfold pclg
          rw [if_neg (by decide), if_neg (by decide), if_pos rfl, bI_neg (fun z => by have := z.2; omega), Int.add_zero]
        rw [e4]
        refine ⟨by omega, fun c => absurd c (by omega), fun _ => ⟨by omega, fun c => absurd c (by omega), fun _ => ⟨by omega, ?_⟩⟩⟩
        have F2 : Fr (fun c k => (b < c ∧ c ≤ b + 5) ∨ (c = 241 ∧ k = 6)) h (wF (wA (wA h' (b + 1) i (fr S (D i))) (b + 4) i (pS S i 4 + 1)) 241 6 (cnt (gO S D) i + 1)) := ((F.wA (Or.inl (by omega))).wA (Or.inl (by omega))).wF (Or.inr ⟨rfl, rfl⟩)
        have g1 : aI (wF (wA (wA h' (b + 1) i (fr S (D i))) (b + 4) i (pS S i 4 + 1)) 241 6 (cnt (gO S D) i + 1)) (b + 1) = uu_ (aI h' (b + 1)) i (fr S (D i)) := by rw [aI_wF_ne (by omega), aI_wA_ne (by omega), aI_wA (by omega)]
        have g2 : aI (wF (wA (wA h' (b + 1) i (fr S (D i))) (b + 4) i (pS S i 4 + 1)) 241 6 (cnt (gO S D) i + 1)) (b + 2) = aI h' (b + 2) := by rw [aI_wF_ne (by omega), aI_wA_ne (by omega), aI_wA_ne (by omega)]
        have g3 : aI (wF (wA (wA h' (b + 1) i (fr S (D i))) (b + 4) i (pS S i 4 + 1)) 241 6 (cnt (gO S D) i + 1)) (b + 3) = aI h' (b + 3) := by rw [aI_wF_ne (by omega), aI_wA_ne (by omega), aI_wA_ne (by omega)]
        have g4 : aI (wF (wA (wA h' (b + 1) i (fr S (D i))) (b + 4) i (pS S i 4 + 1)) 241 6 (cnt (gO S D) i + 1)) (b + 4) = uu_ (aI h' (b + 4)) i (pS S i 4 + 1) := by rw [aI_wF_ne (by omega), aI_wA (by omega), aI_wA_ne (by omega)]
        have g5 : aI (wF (wA (wA h' (b + 1) i (fr S (D i))) (b + 4) i (pS S i 4 + 1)) 241 6 (cnt (gO S D) i + 1)) (b + 5) = aI h' (b + 5) := by rw [aI_wF_ne (by omega), aI_wA_ne (by omega), aI_wA_ne (by omega)]
        refine ih (i + 1) _ F2 (by omega) (by omega) (fun p p0 p1 => ?_) (fun p p0 p1 => ?_) ?_
        · rw [g1, g2, g3, g4, g5]
          have wp := w p p0 p1
          by_cases q : p = i
          · subst q
            rw [uu_eq, uu_eq, wp.2.1, wp.2.2.1, wp.2.2.2.2]
            unfold pclg
            simp only [show ¬ (1 : Int) = 0 by decide, show ¬ (1 : Int) = 3 by decide, show ¬ (1 : Int) = 4 by decide, show ¬ (1 : Int) = 5 by decide, show ¬ (3 : Int) = 0 by decide, show ¬ (4 : Int) = 0 by decide, show ¬ (4 : Int) = 3 by decide, show ¬ (5 : Int) = 0 by decide, show ¬ (5 : Int) = 3 by decide, show ¬ (5 : Int) = 4 by decide, if_true, if_false]
            rw [if_pos ⟨g, by omega⟩, bI_pos ⟨g, by omega⟩]
            exact ⟨rfl, trivial, trivial, rfl, trivial⟩
          · rw [uu_ne (by omega) (by omega) q, uu_ne (by omega) (by omega) q]
            have e : ∀ u, pclg S D (fun p => gO S D p ∧ p < i + 1) (fun _ => False) p u = pclg S D (fun p => gO S D p ∧ p < i) (fun _ => False) p u := fun u => pclg_cong ⟨fun z => ⟨z.1, by have := z.2; omega⟩, fun z => ⟨z.1, by have := z.2; omega⟩⟩ Iff.rfl
            rw [e, e, e, e, e]
            exact wp
        · rw [g3, g4, uu_ne (by omega) (by omega) (by omega)]
          exact r p p0 p1
        · rw [fI_wF_eq (by omega), cs]
      · rw [if_neg g]
        rw [bI_neg g, Int.add_zero] at cs
        refine ⟨by omega, fun c => absurd c (by omega), fun _ => ⟨by omega, fun _ => ?_, fun c => absurd rfl c⟩⟩
        refine ih (i + 1) h' F (by omega) (by omega) (fun p p0 p1 => ?_) r (by rw [cs]; exact c6)
        have e : ∀ u, pclg S D (fun p => gO S D p ∧ p < i + 1) (fun _ => False) p u = pclg S D (fun p => gO S D p ∧ p < i) (fun _ => False) p u := fun u => pclg_cong ⟨fun z => ⟨z.1, by
          by_cases q : p = i
          · subst q; exact absurd z.1 g
          · have := z.2; omega⟩, fun z => ⟨z.1, by have := z.2; omega⟩⟩ Iff.rfl
        rw [e, e, e, e, e]
        exact w p p0 p1
  refine r101_0 C K L apa apb (lp (S 2).toNat 0 h Fr.rf (by omega) (by omega) (fun p p0 p1 => ?_) r (by rw [cnt_0]; exact h6))
  have e : ∀ u, pclg S D (fun p => gO S D p ∧ p < 0) (fun _ => False) p u = pS S p u := by
    intro u
    have ng : ¬ (gO S D p ∧ p < 0) := fun z => by have := z.2; omega
    unfold pclg
    by_cases c0 : u = 0
    · rw [if_pos c0, if_neg ng, if_neg (fun z => z), c0]
    · rw [if_neg c0]
      by_cases c3 : u = 3
      · rw [if_pos c3, bI_neg (fun z => z), c3, Int.add_zero]
      · rw [if_neg c3]
        by_cases c4 : u = 4
        · rw [if_pos c4, bI_neg ng, c4, Int.add_zero]
        · rw [if_neg c4]
          by_cases c5 : u = 5
          · rw [if_pos c5, if_neg (fun z => z), c5]
          · rw [if_neg c5]
  rw [e, e, e, e, e]
  exact w p p0 p1
