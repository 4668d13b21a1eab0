/-! THE REFERENCE: rules by notes. -/
/-- what a person begins with -/
def tld (S : Int → Int) (p w : Int) : Int := if w = 0 then S (115 + 2 * p) else if w = 1 then S (115 + 2 * p + 1) else if w = 2 then pS S p 2 else if w = 5 then -1 else 0
/-- the begin, of the first n people -/
def begN (S : Int → Int) : Nat → Int → Int
  | 0 => uu_ S 3 0
  | n + 1 => uu_ (uu_ (uu_ (uu_ (uu_ (begN S n) (10 + 6 * (n : Int)) (S (115 + 2 * (n : Int)))) (10 + 6 * (n : Int) + 1) (S (115 + 2 * (n : Int) + 1))) (10 + 6 * (n : Int) + 3) 0) (10 + 6 * (n : Int) + 4) 0) (10 + 6 * (n : Int) + 5) (-1)
def begS (S : Int → Int) : Int → Int := begN S (S 2).toNat
theorem begN_k {S : Int → Int} : ∀ (n : Nat), n ≤ 4 → ∀ k, 0 ≤ k → k < 2147483648 → ((k < 10 ∧ ¬ k = 3) ∨ 34 ≤ k) → begN S n k = S k := by
  intro n
  induction n with
  | zero => intro _ k k0 k1 c; exact uu_ne (by omega) (by omega) (by omega)
  | succ n ih =>
    intro hn k k0 k1 c
    unfold begN
    rw [uu_ne (by omega) (by omega) (by omega), uu_ne (by omega) (by omega) (by omega), uu_ne (by omega) (by omega) (by omega), uu_ne (by omega) (by omega) (by omega), uu_ne (by omega) (by omega) (by omega)]
    exact ih (by omega) k k0 k1 c
theorem begN_3 {S : Int → Int} : ∀ (n : Nat), n ≤ 4 → begN S n 3 = 0 := by
  intro n
  induction n with
  | zero => intro _; exact uu_eq _ _ _
  | succ n ih =>
    intro hn
    unfold begN
    rw [uu_ne (by omega) (by omega) (by omega), uu_ne (by omega) (by omega) (by omega), uu_ne (by omega) (by omega) (by omega), uu_ne (by omega) (by omega) (by omega), uu_ne (by omega) (by omega) (by omega)]
    exact ih (by omega)
theorem begN_p {S : Int → Int} : ∀ (n : Nat), n ≤ 4 → ∀ p w : Int, 0 ≤ p → p < 4 → 0 ≤ w → w < 6 → pS (begN S n) p w = if p < n then tld S p w else pS S p w := by
  intro n
  induction n with
  | zero =>
    intro _ p w p0 p1 w0 w1
    rw [if_neg (by omega)]
    exact uu_ne (by omega) (by omega) (by omega)
  | succ n ih =>
    intro hn p w p0 p1 w0 w1
    have i := ih (by omega) p w p0 p1 w0 w1
    unfold begN
    unfold pS at i ⊢
    by_cases e : p = n
    · subst e
      rw [if_pos (by omega)]
      rw [if_neg (by omega)] at i
      have : w = 0 ∨ w = 1 ∨ w = 2 ∨ w = 3 ∨ w = 4 ∨ w = 5 := by omega
      rcases this with rfl | rfl | rfl | rfl | rfl | rfl
      · rw [Int.add_zero, uu_ne (by omega) (by omega) (by omega), uu_ne (by omega) (by omega) (by omega), uu_ne (by omega) (by omega) (by omega), uu_ne (by omega) (by omega) (by omega), uu_eq]; rfl
      · rw [uu_ne (by omega) (by omega) (by omega), uu_ne (by omega) (by omega) (by omega), uu_ne (by omega) (by omega) (by omega), uu_eq]; rfl
      · rw [uu_ne (by omega) (by omega) (by omega), uu_ne (by omega) (by omega) (by omega), uu_ne (by omega) (by omega) (by omega), uu_ne (by omega) (by omega) (by omega), uu_ne (by omega) (by omega) (by omega), i]; rfl
      · rw [uu_ne (by omega) (by omega) (by omega), uu_ne (by omega) (by omega) (by omega), uu_eq]; rfl
      · rw [uu_ne (by omega) (by omega) (by omega), uu_eq]; rfl
      · rw [uu_eq]; rfl
    · rw [uu_ne (by omega) (by omega) (by omega), uu_ne (by omega) (by omega) (by omega), uu_ne (by omega) (by omega) (by omega), uu_ne (by omega) (by omega) (by omega), uu_ne (by omega) (by omega) (by omega), i]
      by_cases c : p < n
      · rw [if_pos c, if_pos (by omega)]
      · rw [if_neg c, if_neg (by omega)]
theorem Tn_begN {S : Int → Int} (h : Tn S) : ∀ n, Tn (begN S n) := by
  intro n
  induction n with
  | zero => exact Tn_uu h
  | succ n ih => exact Tn_uu (Tn_uu (Tn_uu (Tn_uu (Tn_uu ih))))
theorem begS_k {N : Int} {S : Int → Int} (W : WF N S) {k : Int} (k0 : 0 ≤ k ∧ k < 2147483648) (c : (k < 10 ∧ ¬ k = 3) ∨ 34 ≤ k) : begS S k = S k := by
  have b := W.1
  unfold WFb at b
  exact begN_k _ (by omega) k k0.1 k0.2 c
theorem begS_p {N : Int} {S : Int → Int} (W : WF N S) {p w : Int} (hp : 0 ≤ p ∧ p < S 2) (hw : 0 ≤ w ∧ w < 6) : pS (begS S) p w = tld S p w := by
  have b := W.1
  unfold WFb at b
  unfold begS
  rw [begN_p _ (by omega) p w (by omega) (by omega) hw.1 hw.2, if_pos (by omega)]
theorem begS_WF {N : Int} {S : Int → Int} (W : WF N S) : WF 0 (begS S) ∧ Stat S (begS S) := by
  have b := W.1
  unfold WFb at b
  have s : Stat S (begS S) := ⟨fun j _ _ => begS_k W (by omega) (by omega), begS_k W (by omega) (by omega), begS_k W (by omega) (by omega), fun j _ _ => begS_k W (by omega) (by omega), fun j _ _ => begS_k W (by omega) (by omega), fun j j0 j1 => by rw [begS_p W ⟨j0, j1⟩ (by decide)]; rfl⟩
  have e3 : begS S 3 = 0 := begN_3 _ (by omega)
  refine ⟨s.wf W (by omega) (fun k _ _ => begS_k W (by omega) (by omega)) (fun p p0 p1 => ?_), s⟩
  have t := W.2.2.2.2.2.2 p p0 p1
  rw [begS_p W ⟨p0, p1⟩ (by decide), begS_p W ⟨p0, p1⟩ (by decide), begS_p W ⟨p0, p1⟩ (by decide), begS_p W ⟨p0, p1⟩ (by decide), begS_p W ⟨p0, p1⟩ (by decide)]
  have t0 : tld S p 0 = S (115 + 2 * p) := rfl
  have t1 : tld S p 1 = S (115 + 2 * p + 1) := rfl
  have t3 : tld S p 3 = 0 := rfl
  have t4 : tld S p 4 = 0 := rfl
  have t5 : tld S p 5 = -1 := rfl
  omega
-- OutwardDoorsModel.begins()V at 0
set_option maxRecDepth 20000 in
set_option maxHeartbeats 4000000 in
theorem r278_0 {X : Cst} {d : Nat}  {h : AH} {Q : Post} (C_h : Lay h)
  (w : Ex X PG (d + 1) 278 9 [some (.ref 256), some (.int (J 0)), none] [] (wA h 266 3 0) Q) :
    Ex X PG (d + 1) 278 0 [some (.ref 256), none, none] [] h Q := by
  refine wpx_ok (cut := [9]) 7 d 278 0 _ _ _ _ ?_
  show hs h 256 = (0, 11) ∧ ∃ q1, hR h 256 20 = some q1 ∧ (hs h q1).1 = 1 ∧ ix (J 3) (hs h q1).2 ∧ Ex X PG (d + 1) 278 9 [some (.ref 256), some (.int (J 0)), none] [] (wI h q1 (Int32.toNatClampNeg (J 3)) (J 0)) Q
  try simp only [aI_wAL, fI_wAL, aL_wA, aL_wF, aI_wA_ne, aI_wF_ne, fI_wA_ne, fI_wF_ne, fI_wF_nk, aL_wAL_ne, J_sameA, J_sameF, aL_same, Nat.add_left_cancel_iff, Nat.add_eq_left, Nat.left_eq_add, not_false_eq_true, Nat.reduceEqDiff, Nat.reduceAdd, J_add, J_sub, J_mul, J_neg, J_and, J_or, J_xor, J_shl, J_shr, J_div, J_i2b, J_i2l, J_l2i, J_lcm, J_max, J_min, J_nab, J_nao, rdA, rdF, rdL, wA_fold, wF_fold, wL_fold, wC_fold]
  refine ⟨(ls256 C_h), _, (lr256_20 C_h), ?_⟩
  refine ⟨congrArg Prod.fst (ls266 C_h), ixs (ls266 C_h) (by decide) (by decide), ?_⟩
  exact w
-- OutwardDoorsModel.begins()V at 9
set_option maxRecDepth 20000 in
set_option maxHeartbeats 4000000 in
theorem r278_9 {X : Cst} {d : Nat} {x1 : Int} {l2 : Option Value} {h : AH} {Q : Post} (C_h : Lay h)
  (w : (-2147483648 ≤ x1 ∧ x1 < 2147483648) ∧ ((aI h 266 2 ≤ x1 → Q none h) ∧ (¬ aI h 266 2 ≤ x1 → (0 ≤ 115 + (2 * x1) ∧ 115 + (2 * x1) < 123) ∧ (0 ≤ 10 + (6 * x1) ∧ 10 + (6 * x1) < 123) ∧ (0 ≤ (115 + (2 * x1)) + 1 ∧ (115 + (2 * x1)) + 1 < 123) ∧ (0 ≤ (10 + (6 * x1)) + 1 ∧ (10 + (6 * x1)) + 1 < 123) ∧ (0 ≤ (10 + (6 * x1)) + 3 ∧ (10 + (6 * x1)) + 3 < 123) ∧ (0 ≤ (10 + (6 * x1)) + 4 ∧ (10 + (6 * x1)) + 4 < 123) ∧ (0 ≤ (10 + (6 * x1)) + 5 ∧ (10 + (6 * x1)) + 5 < 123) ∧ Ex X PG (d + 1) 278 9 [some (.ref 256), some (.int (J (x1 + 1))), some (.int (J (10 + (6 * x1))))] [] (wA (wA (wA (wA (wA h 266 (10 + (6 * x1)) (aI h 266 (115 + (2 * x1)))) 266 ((10 + (6 * x1)) + 1) (aI (wA h 266 (10 + (6 * x1)) (aI h 266 (115 + (2 * x1)))) 266 ((115 + (2 * x1)) + 1))) 266 ((10 + (6 * x1)) + 3) 0) 266 ((10 + (6 * x1)) + 4) 0) 266 ((10 + (6 * x1)) + 5) (-1)) Q))) :
    Ex X PG (d + 1) 278 9 [some (.ref 256), some (.int (J x1)), l2] [] h Q := by
  refine wpx_ok (cut := [9]) 63 d 278 9 _ _ _ _ ?_
  show hs h 256 = (0, 11) ∧ ∃ q1, hR h 256 20 = some q1 ∧ (hs h q1).1 = 1 ∧ ix (J 2) (hs h q1).2 ∧ (((hI h q1 (Int32.toNatClampNeg (J 2))) ≤ (J x1) → Q none h) ∧ (¬ ((hI h q1 (Int32.toNatClampNeg (J 2))) ≤ (J x1)) → hs h 256 = (0, 11) ∧ ∃ q5, hR h 256 20 = some q5 ∧ hs h 256 = (0, 11) ∧ ∃ q6, hR h 256 20 = some q6 ∧ (hs h q6).1 = 1 ∧ ix ((J 115) + ((J 2) * (J x1))) (hs h q6).2 ∧ (hs h q5).1 = 1 ∧ ix ((J 10) + ((J 6) * (J x1))) (hs h q5).2 ∧ hs (wI h q5 (Int32.toNatClampNeg ((J 10) + ((J 6) * (J x1)))) (hI h q6 (Int32.toNatClampNeg ((J 115) + ((J 2) * (J x1)))))) 256 = (0, 11) ∧ ∃ q9, hR (wI h q5 (Int32.toNatClampNeg ((J 10) + ((J 6) * (J x1)))) (hI h q6 (Int32.toNatClampNeg ((J 115) + ((J 2) * (J x1)))))) 256 20 = some q9 ∧ hs (wI h q5 (Int32.toNatClampNeg ((J 10) + ((J 6) * (J x1)))) (hI h q6 (Int32.toNatClampNeg ((J 115) + ((J 2) * (J x1)))))) 256 = (0, 11) ∧ ∃ q10, hR (wI h q5 (Int32.toNatClampNeg ((J 10) + ((J 6) * (J x1)))) (hI h q6 (Int32.toNatClampNeg ((J 115) + ((J 2) * (J x1)))))) 256 20 = some q10 ∧ (hs (wI h q5 (Int32.toNatClampNeg ((J 10) + ((J 6) * (J x1)))) (hI h q6 (Int32.toNatClampNeg ((J 115) + ((J 2) * (J x1)))))) q10).1 = 1 ∧ ix (((J 115) + ((J 2) * (J x1))) + (J 1)) (hs (wI h q5 (Int32.toNatClampNeg ((J 10) + ((J 6) * (J x1)))) (hI h q6 (Int32.toNatClampNeg ((J 115) + ((J 2) * (J x1)))))) q10).2 ∧ (hs (wI h q5 (Int32.toNatClampNeg ((J 10) + ((J 6) * (J x1)))) (hI h q6 (Int32.toNatClampNeg ((J 115) + ((J 2) * (J x1)))))) q9).1 = 1 ∧ ix (((J 10) + ((J 6) * (J x1))) + (J 1)) (hs (wI h q5 (Int32.toNatClampNeg ((J 10) + ((J 6) * (J x1)))) (hI h q6 (Int32.toNatClampNeg ((J 115) + ((J 2) * (J x1)))))) q9).2 ∧ hs (wI (wI h q5 (Int32.toNatClampNeg ((J 10) + ((J 6) * (J x1)))) (hI h q6 (Int32.toNatClampNeg ((J 115) + ((J 2) * (J x1)))))) q9 (Int32.toNatClampNeg (((J 10) + ((J 6) * (J x1))) + (J 1))) (hI (wI h q5 (Int32.toNatClampNeg ((J 10) + ((J 6) * (J x1)))) (hI h q6 (Int32.toNatClampNeg ((J 115) + ((J 2) * (J x1)))))) q10 (Int32.toNatClampNeg (((J 115) + ((J 2) * (J x1))) + (J 1))))) 256 = (0, 11) ∧ ∃ q13, hR (wI (wI h q5 (Int32.toNatClampNeg ((J 10) + ((J 6) * (J x1)))) (hI h q6 (Int32.toNatClampNeg ((J 115) + ((J 2) * (J x1)))))) q9 (Int32.toNatClampNeg (((J 10) + ((J 6) * (J x1))) + (J 1))) (hI (wI h q5 (Int32.toNatClampNeg ((J 10) + ((J 6) * (J x1)))) (hI h q6 (Int32.toNatClampNeg ((J 115) + ((J 2) * (J x1)))))) q10 (Int32.toNatClampNeg (((J 115) + ((J 2) * (J x1))) + (J 1))))) 256 20 = some q13 ∧ (hs (wI (wI h q5 (Int32.toNatClampNeg ((J 10) + ((J 6) * (J x1)))) (hI h q6 (Int32.toNatClampNeg ((J 115) + ((J 2) * (J x1)))))) q9 (Int32.toNatClampNeg (((J 10) + ((J 6) * (J x1))) + (J 1))) (hI (wI h q5 (Int32.toNatClampNeg ((J 10) + ((J 6) * (J x1)))) (hI h q6 (Int32.toNatClampNeg ((J 115) + ((J 2) * (J x1)))))) q10 (Int32.toNatClampNeg (((J 115) + ((J 2) * (J x1))) + (J 1))))) q13).1 = 1 ∧ ix (((J 10) + ((J 6) * (J x1))) + (J 3)) (hs (wI (wI h q5 (Int32.toNatClampNeg ((J 10) + ((J 6) * (J x1)))) (hI h q6 (Int32.toNatClampNeg ((J 115) + ((J 2) * (J x1)))))) q9 (Int32.toNatClampNeg (((J 10) + ((J 6) * (J x1))) + (J 1))) (hI (wI h q5 (Int32.toNatClampNeg ((J 10) + ((J 6) * (J x1)))) (hI h q6 (Int32.toNatClampNeg ((J 115) + ((J 2) * (J x1)))))) q10 (Int32.toNatClampNeg (((J 115) + ((J 2) * (J x1))) + (J 1))))) q13).2 ∧ hs (wI (wI (wI h q5 (Int32.toNatClampNeg ((J 10) + ((J 6) * (J x1)))) (hI h q6 (Int32.toNatClampNeg ((J 115) + ((J 2) * (J x1)))))) q9 (Int32.toNatClampNeg (((J 10) + ((J 6) * (J x1))) + (J 1))) (hI (wI h q5 (Int32.toNatClampNeg ((J 10) + ((J 6) * (J x1)))) (hI h q6 (Int32.toNatClampNeg ((J 115) + ((J 2) * (J x1)))))) q10 (Int32.toNatClampNeg (((J 115) + ((J 2) * (J x1))) + (J 1))))) q13 (Int32.toNatClampNeg (((J 10) + ((J 6) * (J x1))) + (J 3))) (J 0)) 256 = (0, 11) ∧ ∃ q15, hR (wI (wI (wI h q5 (Int32.toNatClampNeg ((J 10) + ((J 6) * (J x1)))) (hI h q6 (Int32.toNatClampNeg ((J 115) + ((J 2) * (J x1)))))) q9 (Int32.toNatClampNeg (((J 10) + ((J 6) * (J x1))) + (J 1))) (hI (wI h q5 (Int32.toNatClampNeg ((J 10) + ((J 6) * (J x1)))) (hI h q6 (Int32.toNatClampNeg ((J 115) + ((J 2) * (J x1)))))) q10 (Int32.toNatClampNeg (((J 115) + ((J 2) * (J x1))) + (J 1))))) q13 (Int32.toNatClampNeg (((J 10) + ((J 6) * (J x1))) + (J 3))) (J 0)) 256 20 = some q15 ∧ (hs (wI (wI (wI h q5 (Int32.toNatClampNeg ((J 10) + ((J 6) * (J x1)))) (hI h q6 (Int32.toNatClampNeg ((J 115) + ((J 2) * (J x1)))))) q9 (Int32.toNatClampNeg (((J 10) + ((J 6) * (J x1))) + (J 1))) (hI (wI h q5 (Int32.toNatClampNeg ((J 10) + ((J 6) * (J x1)))) (hI h q6 (Int32.toNatClampNeg ((J 115) + ((J 2) * (J x1)))))) q10 (Int32.toNatClampNeg (((J 115) + ((J 2) * (J x1))) + (J 1))))) q13 (Int32.toNatClampNeg (((J 10) + ((J 6) * (J x1))) + (J 3))) (J 0)) q15).1 = 1 ∧ ix (((J 10) + ((J 6) * (J x1))) + (J 4)) (hs (wI (wI (wI h q5 (Int32.toNatClampNeg ((J 10) + ((J 6) * (J x1)))) (hI h q6 (Int32.toNatClampNeg ((J 115) + ((J 2) * (J x1)))))) q9 (Int32.toNatClampNeg (((J 10) + ((J 6) * (J x1))) + (J 1))) (hI (wI h q5 (Int32.toNatClampNeg ((J 10) + ((J 6) * (J x1)))) (hI h q6 (Int32.toNatClampNeg ((J 115) + ((J 2) * (J x1)))))) q10 (Int32.toNatClampNeg (((J 115) + ((J 2) * (J x1))) + (J 1))))) q13 (Int32.toNatClampNeg (((J 10) + ((J 6) * (J x1))) + (J 3))) (J 0)) q15).2 ∧ hs (wI (wI (wI (wI h q5 (Int32.toNatClampNeg ((J 10) + ((J 6) * (J x1)))) (hI h q6 (Int32.toNatClampNeg ((J 115) + ((J 2) * (J x1)))))) q9 (Int32.toNatClampNeg (((J 10) + ((J 6) * (J x1))) + (J 1))) (hI (wI h q5 (Int32.toNatClampNeg ((J 10) + ((J 6) * (J x1)))) (hI h q6 (Int32.toNatClampNeg ((J 115) + ((J 2) * (J x1)))))) q10 (Int32.toNatClampNeg (((J 115) + ((J 2) * (J x1))) + (J 1))))) q13 (Int32.toNatClampNeg (((J 10) + ((J 6) * (J x1))) + (J 3))) (J 0)) q15 (Int32.toNatClampNeg (((J 10) + ((J 6) * (J x1))) + (J 4))) (J 0)) 256 = (0, 11) ∧ ∃ q17, hR (wI (wI (wI (wI h q5 (Int32.toNatClampNeg ((J 10) + ((J 6) * (J x1)))) (hI h q6 (Int32.toNatClampNeg ((J 115) + ((J 2) * (J x1)))))) q9 (Int32.toNatClampNeg (((J 10) + ((J 6) * (J x1))) + (J 1))) (hI (wI h q5 (Int32.toNatClampNeg ((J 10) + ((J 6) * (J x1)))) (hI h q6 (Int32.toNatClampNeg ((J 115) + ((J 2) * (J x1)))))) q10 (Int32.toNatClampNeg (((J 115) + ((J 2) * (J x1))) + (J 1))))) q13 (Int32.toNatClampNeg (((J 10) + ((J 6) * (J x1))) + (J 3))) (J 0)) q15 (Int32.toNatClampNeg (((J 10) + ((J 6) * (J x1))) + (J 4))) (J 0)) 256 20 = some q17 ∧ (hs (wI (wI (wI (wI h q5 (Int32.toNatClampNeg ((J 10) + ((J 6) * (J x1)))) (hI h q6 (Int32.toNatClampNeg ((J 115) + ((J 2) * (J x1)))))) q9 (Int32.toNatClampNeg (((J 10) + ((J 6) * (J x1))) + (J 1))) (hI (wI h q5 (Int32.toNatClampNeg ((J 10) + ((J 6) * (J x1)))) (hI h q6 (Int32.toNatClampNeg ((J 115) + ((J 2) * (J x1)))))) q10 (Int32.toNatClampNeg (((J 115) + ((J 2) * (J x1))) + (J 1))))) q13 (Int32.toNatClampNeg (((J 10) + ((J 6) * (J x1))) + (J 3))) (J 0)) q15 (Int32.toNatClampNeg (((J 10) + ((J 6) * (J x1))) + (J 4))) (J 0)) q17).1 = 1 ∧ ix (((J 10) + ((J 6) * (J x1))) + (J 5)) (hs (wI (wI (wI (wI h q5 (Int32.toNatClampNeg ((J 10) + ((J 6) * (J x1)))) (hI h q6 (Int32.toNatClampNeg ((J 115) + ((J 2) * (J x1)))))) q9 (Int32.toNatClampNeg (((J 10) + ((J 6) * (J x1))) + (J 1))) (hI (wI h q5 (Int32.toNatClampNeg ((J 10) + ((J 6) * (J x1)))) (hI h q6 (Int32.toNatClampNeg ((J 115) + ((J 2) * (J x1)))))) q10 (Int32.toNatClampNeg (((J 115) + ((J 2) * (J x1))) + (J 1))))) q13 (Int32.toNatClampNeg (((J 10) + ((J 6) * (J x1))) + (J 3))) (J 0)) q15 (Int32.toNatClampNeg (((J 10) + ((J 6) * (J x1))) + (J 4))) (J 0)) q17).2 ∧ Ex X PG (d + 1) 278 9 [some (.ref 256), some (.int ((J x1) + (J 1))), some (.int ((J 10) + ((J 6) * (J x1))))] [] (wI (wI (wI (wI (wI h q5 (Int32.toNatClampNeg ((J 10) + ((J 6) * (J x1)))) (hI h q6 (Int32.toNatClampNeg ((J 115) + ((J 2) * (J x1)))))) q9 (Int32.toNatClampNeg (((J 10) + ((J 6) * (J x1))) + (J 1))) (hI (wI h q5 (Int32.toNatClampNeg ((J 10) + ((J 6) * (J x1)))) (hI h q6 (Int32.toNatClampNeg ((J 115) + ((J 2) * (J x1)))))) q10 (Int32.toNatClampNeg (((J 115) + ((J 2) * (J x1))) + (J 1))))) q13 (Int32.toNatClampNeg (((J 10) + ((J 6) * (J x1))) + (J 3))) (J 0)) q15 (Int32.toNatClampNeg (((J 10) + ((J 6) * (J x1))) + (J 4))) (J 0)) q17 (Int32.toNatClampNeg (((J 10) + ((J 6) * (J x1))) + (J 5))) (J (-1))) Q))
  try simp only [aI_wAL, fI_wAL, aL_wA, aL_wF, aI_wA_ne, aI_wF_ne, fI_wA_ne, fI_wF_ne, fI_wF_nk, aL_wAL_ne, J_sameA, J_sameF, aL_same, Nat.add_left_cancel_iff, Nat.add_eq_left, Nat.left_eq_add, not_false_eq_true, Nat.reduceEqDiff, Nat.reduceAdd, J_add, J_sub, J_mul, J_neg, J_and, J_or, J_xor, J_shl, J_shr, J_div, J_i2b, J_i2l, J_l2i, J_lcm, J_max, J_min, J_nab, J_nao, rdA, rdF, rdL, wA_fold, wF_fold, wL_fold, wC_fold]
  refine ⟨(ls256 C_h), _, (lr256_20 C_h), ?_⟩
  refine ⟨congrArg Prod.fst (ls266 C_h), ixs (ls266 C_h) (by decide) (by decide), ?_⟩
  obtain ⟨k4, w⟩ := w
  refine ⟨fun c2 => ?_, fun c2 => ?_⟩
  · have t3 : aI h 266 2 ≤ x1 := ((Jle (rg_toInt _) k4).mp c2)
    replace w := w.1 t3
    exact w
  · have t3 : ¬ aI h 266 2 ≤ x1 := (fun e => c2 ((Jle (rg_toInt _) k4).mpr e))
    replace w := w.2 t3
    refine ⟨(ls256 C_h), _, (lr256_20 C_h), ?_⟩
    refine ⟨(ls256 C_h), _, (lr256_20 C_h), ?_⟩
    obtain ⟨k7, w⟩ := w
    refine ⟨congrArg Prod.fst (ls266 C_h), ixs (ls266 C_h) k7 (by decide), ?_⟩
    obtain ⟨k8, w⟩ := w
    refine ⟨congrArg Prod.fst (ls266 C_h), ixs (ls266 C_h) k8 (by decide), ?_⟩
    refine ⟨(ls256 C_h), _, (lr256_20 C_h), ?_⟩
    refine ⟨(ls256 C_h), _, (lr256_20 C_h), ?_⟩
    obtain ⟨k11, w⟩ := w
    refine ⟨congrArg Prod.fst (ls266 C_h), ixs (ls266 C_h) k11 (by decide), ?_⟩
    obtain ⟨k12, w⟩ := w
    refine ⟨congrArg Prod.fst (ls266 C_h), ixs (ls266 C_h) k12 (by decide), ?_⟩
    refine ⟨(ls256 C_h), _, (lr256_20 C_h), ?_⟩
    obtain ⟨k14, w⟩ := w
    refine ⟨congrArg Prod.fst (ls266 C_h), ixs (ls266 C_h) k14 (by decide), ?_⟩
    refine ⟨(ls256 C_h), _, (lr256_20 C_h), ?_⟩
    obtain ⟨k16, w⟩ := w
    refine ⟨congrArg Prod.fst (ls266 C_h), ixs (ls266 C_h) k16 (by decide), ?_⟩
    refine ⟨(ls256 C_h), _, (lr256_20 C_h), ?_⟩
    obtain ⟨k18, w⟩ := w
    refine ⟨congrArg Prod.fst (ls266 C_h), ixs (ls266 C_h) k18 (by decide), ?_⟩
    exact w
theorem m278 {X : Cst} {d : Nat} {h : AH} {Q : Post} (C : Lay h) (hd : 1 ≤ d) (h2 : 0 ≤ aI h 266 2 ∧ aI h 266 2 ≤ 4)
    (k : ∀ h', Fr (fun c _ => c = 266) h h' → aI h' 266 = begS (aI h 266) → Q none h') : Ex X PG d 278 0 [some (.ref 256), none, none] [] h Q := by
  obtain ⟨d, rfl⟩ : ∃ e, d = e + 1 := ⟨d - 1, by omega⟩
  have lp : ∀ (m i : Nat) (h' : AH) (l2 : Option Value), aI h 266 2 - i = m → (i : Int) ≤ aI h 266 2 → Fr (fun c _ => c = 266) h h' → aI h' 266 = begN (aI h 266) i → Ex X PG (d + 1) 278 9 [some (.ref 256), some (.int (J (i : Int))), l2] [] h' Q := by
    intro m
    induction m with
    | zero =>
      intro i h' l2 e1 e2 F e
      refine r278_9 (F.C C) ?_
      rw [e, begN_k i (by omega) 2 (by omega) (by omega) (by omega)]
      exact ⟨by omega, fun _ => k h' F (by rw [e]; unfold begS; rw [show (aI h 266 2).toNat = i by omega]), fun z => absurd (by omega) z⟩
    | succ m ih =>
      intro i h' l2 e1 e2 F e
      refine r278_9 (F.C C) ?_
      have v1 : aI h' 266 (115 + 2 * (i : Int)) = aI h 266 (115 + 2 * (i : Int)) := by rw [e]; exact begN_k i (by omega) _ (by omega) (by omega) (by omega)
      have v2 : aI (wA h' 266 (10 + 6 * (i : Int)) (aI h' 266 (115 + 2 * (i : Int)))) 266 (115 + 2 * (i : Int) + 1) = aI h 266 (115 + 2 * (i : Int) + 1) := by
        rw [aI_wA (aI_rg _ _ _), uu_ne (by omega) (by omega) (by omega), e]; exact begN_k i (by omega) _ (by omega) (by omega) (by omega)
      rw [v2, v1]
      have e02 : aI h' 266 2 = aI h 266 2 := by rw [e]; exact begN_k i (by omega) 2 (by omega) (by omega) (by omega)
      rw [e02]
      refine ⟨by omega, fun z => absurd z (by omega), fun _ => ⟨by omega, by omega, by omega, by omega, by omega, by omega, by omega, ?_⟩⟩
      refine ih (i + 1) _ _ (by omega) (by omega) (((((F.wA rfl).wA rfl).wA rfl).wA rfl).wA rfl) ?_
      rw [aI_wA (by decide), aI_wA (by decide), aI_wA (by decide), aI_wA (aI_rg _ _ _), aI_wA (aI_rg _ _ _), e]
      rfl
  refine r278_0 C ?_
  exact lp (aI h 266 2).toNat 0 _ _ (by omega) (by omega) (Fr.rf.wA rfl) (by rw [aI_wA (by decide)]; rfl)
/-- the NOTES of a MOMENT hold there -/
def ntS (S U : Int → Int) (m : Int) : Prop := ∀ k, 0 ≤ k → k < S 114 → S (84 + 3 * k) = m → pS U (S (84 + 3 * k + 1)) 0 = S (84 + 3 * k + 2)
-- OutwardDoorsModel.areNotesSo()Z at 0
set_option maxRecDepth 20000 in
set_option maxHeartbeats 4000000 in
theorem r279_0 {X : Cst} {d : Nat}  {h : AH} {Q : Post} (C_h : Lay h)
  (w : Ex X PG (d + 1) 279 2 [some (.ref 256), some (.int (J 0)), none] [] h Q) :
    Ex X PG (d + 1) 279 0 [some (.ref 256), none, none] [] h Q := by
  refine wpx_ok (cut := [2]) 2 d 279 0 _ _ _ _ ?_
  show Ex X PG (d + 1) 279 2 [some (.ref 256), some (.int (J 0)), none] [] h Q
  try simp only [aI_wAL, fI_wAL, aL_wA, aL_wF, aI_wA_ne, aI_wF_ne, fI_wA_ne, fI_wF_ne, fI_wF_nk, aL_wAL_ne, J_sameA, J_sameF, aL_same, Nat.add_left_cancel_iff, Nat.add_eq_left, Nat.left_eq_add, not_false_eq_true, Nat.reduceEqDiff, Nat.reduceAdd, J_add, J_sub, J_mul, J_neg, J_and, J_or, J_xor, J_shl, J_shr, J_div, J_i2b, J_i2l, J_l2i, J_lcm, J_max, J_min, J_nab, J_nao, rdA, rdF, rdL, wA_fold, wF_fold, wL_fold, wC_fold]
  exact w
-- OutwardDoorsModel.areNotesSo()Z at 2
set_option maxRecDepth 20000 in
set_option maxHeartbeats 4000000 in
theorem r279_2 {X : Cst} {d : Nat} {x1 : Int} {l2 : Option Value} {h : AH} {Q : Post} (C_h : Lay h) (hd : 1 ≤ d)
  (w : (-2147483648 ≤ x1 ∧ x1 < 2147483648) ∧ ((aI h 266 114 ≤ x1 → Q (some (.int (J 1))) h) ∧ (¬ aI h 266 114 ≤ x1 → (0 ≤ 84 + (3 * x1) ∧ 84 + (3 * x1) < 123) ∧ ((¬ aI h 266 (84 + (3 * x1)) = aI h 266 3 → Ex X PG (d + 1) 279 2 [some (.ref 256), some (.int (J (x1 + 1))), some (.int (J (84 + (3 * x1))))] [] h Q) ∧ (aI h 266 (84 + (3 * x1)) = aI h 266 3 → (0 ≤ (84 + (3 * x1)) + 1 ∧ (84 + (3 * x1)) + 1 < 123) ∧ (0 ≤ 10 + 6 * (aI h 266 ((84 + (3 * x1)) + 1)) + 0 ∧ 10 + 6 * (aI h 266 ((84 + (3 * x1)) + 1)) + 0 < 123) ∧ (0 ≤ (84 + (3 * x1)) + 2 ∧ (84 + (3 * x1)) + 2 < 123) ∧ ((pS (aI h 266) (aI h 266 ((84 + (3 * x1)) + 1)) 0 = aI h 266 ((84 + (3 * x1)) + 2) → Ex X PG (d + 1) 279 2 [some (.ref 256), some (.int (J (x1 + 1))), some (.int (J (84 + (3 * x1))))] [] h Q) ∧ (¬ pS (aI h 266) (aI h 266 ((84 + (3 * x1)) + 1)) 0 = aI h 266 ((84 + (3 * x1)) + 2) → Q (some (.int (J 0))) h))))))) :
    Ex X PG (d + 1) 279 2 [some (.ref 256), some (.int (J x1)), l2] [] h Q := by
  refine wpx_ok (cut := [2]) 39 d 279 2 _ _ _ _ ?_
  show hs h 256 = (0, 11) ∧ ∃ q1, hR h 256 20 = some q1 ∧ (hs h q1).1 = 1 ∧ ix (J 114) (hs h q1).2 ∧ (((hI h q1 (Int32.toNatClampNeg (J 114))) ≤ (J x1) → (J 1 = J 0 ∨ J 1 = J 1) ∧ Q (some (.int (J 1))) h) ∧ (¬ ((hI h q1 (Int32.toNatClampNeg (J 114))) ≤ (J x1)) → hs h 256 = (0, 11) ∧ ∃ q5, hR h 256 20 = some q5 ∧ (hs h q5).1 = 1 ∧ ix ((J 84) + ((J 3) * (J x1))) (hs h q5).2 ∧ hs h 256 = (0, 11) ∧ ∃ q7, hR h 256 20 = some q7 ∧ (hs h q7).1 = 1 ∧ ix (J 3) (hs h q7).2 ∧ ((¬ (hI h q5 (Int32.toNatClampNeg ((J 84) + ((J 3) * (J x1))))) = (hI h q7 (Int32.toNatClampNeg (J 3))) → Ex X PG (d + 1) 279 2 [some (.ref 256), some (.int ((J x1) + (J 1))), some (.int ((J 84) + ((J 3) * (J x1))))] [] h Q) ∧ (¬ (¬ (hI h q5 (Int32.toNatClampNeg ((J 84) + ((J 3) * (J x1))))) = (hI h q7 (Int32.toNatClampNeg (J 3)))) → hs h 256 = (0, 11) ∧ ∃ q10, hR h 256 20 = some q10 ∧ (hs h q10).1 = 1 ∧ ix (((J 84) + ((J 3) * (J x1))) + (J 1)) (hs h q10).2 ∧ hs h 256 = (0, 11) ∧ Ex X PG d 209 0 [some (.ref 256), some (.int (hI h q10 (Int32.toNatClampNeg (((J 84) + ((J 3) * (J x1))) + (J 1))))), some (.int (J 0))] [] h (fun v12 h13 => ∃ r14, v12 = some (.int r14) ∧ hs h13 256 = (0, 11) ∧ ∃ q16, hR h13 256 20 = some q16 ∧ (hs h13 q16).1 = 1 ∧ ix (((J 84) + ((J 3) * (J x1))) + (J 2)) (hs h13 q16).2 ∧ ((r14 = (hI h13 q16 (Int32.toNatClampNeg (((J 84) + ((J 3) * (J x1))) + (J 2)))) → Ex X PG (d + 1) 279 2 [some (.ref 256), some (.int ((J x1) + (J 1))), some (.int ((J 84) + ((J 3) * (J x1))))] [] h13 Q) ∧ (¬ (r14 = (hI h13 q16 (Int32.toNatClampNeg (((J 84) + ((J 3) * (J x1))) + (J 2))))) → (J 0 = J 0 ∨ J 0 = J 1) ∧ Q (some (.int (J 0))) h13)))))))
  try simp only [aI_wAL, fI_wAL, aL_wA, aL_wF, aI_wA_ne, aI_wF_ne, fI_wA_ne, fI_wF_ne, fI_wF_nk, aL_wAL_ne, J_sameA, J_sameF, aL_same, Nat.add_left_cancel_iff, Nat.add_eq_left, Nat.left_eq_add, not_false_eq_true, Nat.reduceEqDiff, Nat.reduceAdd, J_add, J_sub, J_mul, J_neg, J_and, J_or, J_xor, J_shl, J_shr, J_div, J_i2b, J_i2l, J_l2i, J_lcm, J_max, J_min, J_nab, J_nao, rdA, rdF, rdL, wA_fold, wF_fold, wL_fold, wC_fold]
  refine ⟨(ls256 C_h), _, (lr256_20 C_h), ?_⟩
  refine ⟨congrArg Prod.fst (ls266 C_h), ixs (ls266 C_h) (by decide) (by decide), ?_⟩
  obtain ⟨k4, w⟩ := w
  refine ⟨fun c2 => ?_, fun c2 => ?_⟩
  · have t3 : aI h 266 114 ≤ x1 := ((Jle (rg_toInt _) k4).mp c2)
    replace w := w.1 t3
    exact ⟨(Or.inr (by trivial)), w⟩
  · have t3 : ¬ aI h 266 114 ≤ x1 := (fun e => c2 ((Jle (rg_toInt _) k4).mpr e))
    replace w := w.2 t3
    refine ⟨(ls256 C_h), _, (lr256_20 C_h), ?_⟩
    obtain ⟨k6, w⟩ := w
    refine ⟨congrArg Prod.fst (ls266 C_h), ixs (ls266 C_h) k6 (by decide), ?_⟩
    refine ⟨(ls256 C_h), _, (lr256_20 C_h), ?_⟩
    refine ⟨congrArg Prod.fst (ls266 C_h), ixs (ls266 C_h) (by decide) (by decide), ?_⟩
    refine ⟨fun c8 => ?_, fun c8 => ?_⟩
    · have t9 : ¬ aI h 266 (84 + (3 * x1)) = aI h 266 3 := (fun e => c8 ((Jeq (rg_toInt _) (rg_toInt _)).mpr e))
      replace w := w.1 t9
      exact w
    · have t9 : aI h 266 (84 + (3 * x1)) = aI h 266 3 := ((Jeq (rg_toInt _) (rg_toInt _)).mp (Classical.byContradiction c8))
      replace w := w.2 t9
      refine ⟨(ls256 C_h), _, (lr256_20 C_h), ?_⟩
      obtain ⟨k11, w⟩ := w
      refine ⟨congrArg Prod.fst (ls266 C_h), ixs (ls266 C_h) k11 (by decide), ?_⟩
      refine ⟨(ls256 C_h), ?_⟩
      obtain ⟨k15, w⟩ := w
      refine m209 (h := h) (p := (aI h 266 ((84 + (3 * x1)) + 1))) (w := 0) C_h (by omega) k15 ?_
      refine ⟨_, rfl, ?_⟩
      try simp only [aI_wAL, fI_wAL, aL_wA, aL_wF, aI_wA_ne, aI_wF_ne, fI_wA_ne, fI_wF_ne, fI_wF_nk, aL_wAL_ne, J_sameA, J_sameF, aL_same, Nat.add_left_cancel_iff, Nat.add_eq_left, Nat.left_eq_add, not_false_eq_true, Nat.reduceEqDiff, Nat.reduceAdd, J_add, J_sub, J_mul, J_neg, J_and, J_or, J_xor, J_shl, J_shr, J_div, J_i2b, J_i2l, J_l2i, J_lcm, J_max, J_min, J_nab, J_nao, rdA, rdF, rdL, wA_fold, wF_fold, wL_fold, wC_fold]
      refine ⟨(ls256 C_h), _, (lr256_20 C_h), ?_⟩
      obtain ⟨k17, w⟩ := w
      refine ⟨congrArg Prod.fst (ls266 C_h), ixs (ls266 C_h) k17 (by decide), ?_⟩
      refine ⟨fun c18 => ?_, fun c18 => ?_⟩
      · have t19 : pS (aI h 266) (aI h 266 ((84 + (3 * x1)) + 1)) 0 = aI h 266 ((84 + (3 * x1)) + 2) := ((Jeq (aI_rg _ _ _) (rg_toInt _)).mp c18)
        replace w := w.1 t19
        exact w
      · have t19 : ¬ pS (aI h 266) (aI h 266 ((84 + (3 * x1)) + 1)) 0 = aI h 266 ((84 + (3 * x1)) + 2) := (fun e => c18 ((Jeq (aI_rg _ _ _) (rg_toInt _)).mpr e))
        replace w := w.2 t19
        exact ⟨(Or.inl (by trivial)), w⟩
theorem m279 {X : Cst} {d : Nat} {h : AH} {Q : Post} (C : Lay h) (hd : 2 ≤ d) (W : WF 999 (aI h 266)) (k : Q (some (.int (J (bI (ntS (aI h 266) (aI h 266) (aI h 266 3)))))) h) : Ex X PG d 279 0 [some (.ref 256), none, none] [] h Q := by
  obtain ⟨d, rfl⟩ : ∃ e, d = e + 1 := ⟨d - 1, by omega⟩
  have b := W.1
  unfold WFb at b
  have nn := W.2.2.2.2.2.1
  have n0 := nn.1
  have n1 := nn.2.1
  have lp : ∀ (m : Nat) (i : Int) (l2 : Option Value), aI h 266 114 - i = m → 0 ≤ i → (∀ j, 0 ≤ j → j < i → aI h 266 (84 + 3 * j) = aI h 266 3 → pS (aI h 266) (aI h 266 (84 + 3 * j + 1)) 0 = aI h 266 (84 + 3 * j + 2)) → Ex X PG (d + 1) 279 2 [some (.ref 256), some (.int (J i)), l2] [] h Q := by
    intro m
    induction m with
    | zero =>
      intro i l2 e1 e2 a
      refine r279_2 C (by omega) ⟨by omega, fun _ => ?_, fun z => absurd (by omega) z⟩
      rw [bI_pos (show ntS (aI h 266) (aI h 266) (aI h 266 3) from fun j j0 j1 => a j j0 (by omega))] at k
      exact k
    | succ m ih =>
      intro i l2 e1 e2 a
      have n2 := nn.2.2 i e2 (by omega)
      refine r279_2 C (by omega) ⟨by omega, fun z => absurd z (by omega), fun _ => ⟨by omega, fun c => ?_, fun c => ⟨by omega, by omega, by omega, fun c2 => ?_, fun c2 => ?_⟩⟩⟩
      · refine ih (i + 1) _ (by omega) (by omega) (fun j j0 j1 => ?_)
        by_cases q : j = i
        · subst q; exact fun z => absurd z c
        · exact a j j0 (by omega)
      · refine ih (i + 1) _ (by omega) (by omega) (fun j j0 j1 => ?_)
        by_cases q : j = i
        · subst q; exact fun _ => c2
        · exact a j j0 (by omega)
      · rw [bI_neg (fun z => c2 (z i e2 (by omega) c))] at k
        exact k
  refine r279_0 C ?_
  exact lp (aI h 266 114).toNat 0 none (by omega) (by omega) (fun j j0 j1 => by omega)
/-- the rule f keeps the NOTES of the first n MOMENTS -/
def fitB (f : Int) (Rs : Int → Ru) (S : Int → Int) (n : Nat) : Prop := ∀ m : Nat, m < n → ntS S (momI f Rs m (begS S)) m
def fit (f : Int) (Rs : Int → Ru) (S : Int → Int) : Prop := fitB f Rs S 61
theorem momI_3 (f : Int) (Rs : Int → Ru) (S : Int → Int) : ∀ m : Nat, momI f Rs m S 3 = S 3 + m := by
  intro m
  induction m with
  | zero => show S 3 = S 3 + 0; omega
  | succ m ih =>
    show mom (momI f Rs m S) (wdo (momI f Rs m S) f Rs) 3 = _
    rw [mom_3, ih]; omega
def TRf (c k : Nat) : Prop := TRs c k ∨ (c = 256 ∧ k = 21)
-- OutwardDoorsModel.gathersRules(I)V at 0
set_option maxRecDepth 20000 in
set_option maxHeartbeats 4000000 in
theorem r277_0 {X : Cst} {d : Nat} {x1 : Int} {h : AH} {Q : Post} (C_h : Lay h) (hd : 1 ≤ d)
  (w : (∀ h2, SH h h2 → (Fr (fun c _ => c = 271) h h2 ∧ aI h2 271 = mix 34 (aI h 266) (aI h 271)) → Ex X PG (d + 1) 277 11 [some (.ref 256), some (.int (J x1)), some (.int (J (fI h 256 21))), some (.int (J 0)), none, none] [] h2 Q)) :
    Ex X PG (d + 1) 277 0 [some (.ref 256), some (.int (J x1)), none, none, none, none] [] h Q := by
  refine wpx_ok (cut := [11, 40, 77]) 7 d 277 0 _ _ _ _ ?_
  show hs h 256 = (0, 11) ∧ hs h 256 = (0, 11) ∧ Ex X PG d 251 0 [some (.ref 256), none] [] h (fun v1 h2 => v1 = none ∧ Ex X PG (d + 1) 277 11 [some (.ref 256), some (.int (J x1)), some (.int (hF h 256 21)), some (.int (J 0)), none, none] [] h2 Q)
  try simp only [aI_wAL, fI_wAL, aL_wA, aL_wF, aI_wA_ne, aI_wF_ne, fI_wA_ne, fI_wF_ne, fI_wF_nk, aL_wAL_ne, J_sameA, J_sameF, aL_same, Nat.add_left_cancel_iff, Nat.add_eq_left, Nat.left_eq_add, not_false_eq_true, Nat.reduceEqDiff, Nat.reduceAdd, J_add, J_sub, J_mul, J_neg, J_and, J_or, J_xor, J_shl, J_shr, J_div, J_i2b, J_i2l, J_l2i, J_lcm, J_max, J_min, J_nab, J_nao, rdA, rdF, rdL, wA_fold, wF_fold, wL_fold, wC_fold]
  refine ⟨(ls256 C_h), ?_⟩
  refine ⟨(ls256 C_h), ?_⟩
  refine m251 (h := h)  C_h (by omega)  ?_
  intro h2 s3 p4
  replace w := w h2 s3 p4
  refine ⟨rfl, ?_⟩
  have C_h2 := Lay_SH s3 C_h
  try simp only [aI_wAL, fI_wAL, aL_wA, aL_wF, aI_wA_ne, aI_wF_ne, fI_wA_ne, fI_wF_ne, fI_wF_nk, aL_wAL_ne, J_sameA, J_sameF, aL_same, Nat.add_left_cancel_iff, Nat.add_eq_left, Nat.left_eq_add, not_false_eq_true, Nat.reduceEqDiff, Nat.reduceAdd, J_add, J_sub, J_mul, J_neg, J_and, J_or, J_xor, J_shl, J_shr, J_div, J_i2b, J_i2l, J_l2i, J_lcm, J_max, J_min, J_nab, J_nao, rdA, rdF, rdL, wA_fold, wF_fold, wL_fold, wC_fold]
  exact w
-- OutwardDoorsModel.gathersRules(I)V at 11
set_option maxRecDepth 20000 in
set_option maxHeartbeats 4000000 in
theorem r277_11 {X : Cst} {d : Nat} {x1 : Int} {x2 : Int} {x3 : Int} {l4 : Option Value} {l5 : Option Value} {h : AH} {Q : Post} (C_h : Lay h)
  (w : (-2147483648 ≤ x3 ∧ x3 < 2147483648) ∧ ((fI h 256 2 < x3 → Q none (wF h 256 21 x2)) ∧ (¬ fI h 256 2 < x3 → Ex X PG d 278 0 [some (.ref 256), none, none] [] (wF h 256 21 (x3 - 1)) (fun v4 h5 => v4 = none ∧ SH (wF h 256 21 (x3 - 1)) h5 ∧ (0 ≤ x3 ∧ x3 < 7) ∧ Ex X PG (d + 1) 277 40 [some (.ref 256), some (.int (J x1)), some (.int (J x2)), some (.int (J x3)), some (.int (J 0)), l5] [] (wA h5 275 x3 (nao 1)) Q)))) :
    Ex X PG (d + 1) 277 11 [some (.ref 256), some (.int (J x1)), some (.int (J x2)), some (.int (J x3)), l4, l5] [] h Q := by
  refine wpx_ok (cut := [11, 40, 77]) 18 d 277 11 _ _ _ _ ?_
  show hs h 256 = (0, 11) ∧ (((hF h 256 2) < (J x3) → hs h 256 = (0, 11) ∧ Q none (wG h 256 21 (J x2))) ∧ (¬ ((hF h 256 2) < (J x3)) → hs h 256 = (0, 11) ∧ hs (wG h 256 21 ((J x3) - (J 1))) 256 = (0, 11) ∧ Ex X PG d 278 0 [some (.ref 256), none, none] [] (wG h 256 21 ((J x3) - (J 1))) (fun v4 h5 => v4 = none ∧ hs h5 256 = (0, 11) ∧ ∃ q6, hR h5 256 37 = some q6 ∧ (((hs h5 q6).1 = 3 ∧ ix (J x3) (hs h5 q6).2 ∧ Ex X PG (d + 1) 277 40 [some (.ref 256), some (.int (J x1)), some (.int (J x2)), some (.int (J x3)), some (.int (J 0)), l5] [] (wI h5 q6 (Int32.toNatClampNeg (J x3)) (vp_nar .byte (J 1))) Q) ∨ ((hs h5 q6).1 = 4 ∧ ix (J x3) (hs h5 q6).2 ∧ Ex X PG (d + 1) 277 40 [some (.ref 256), some (.int (J x1)), some (.int (J x2)), some (.int (J x3)), some (.int (J 0)), l5] [] (wI h5 q6 (Int32.toNatClampNeg (J x3)) (vp_nar .boolean (J 1))) Q)))))
  try simp only [aI_wAL, fI_wAL, aL_wA, aL_wF, aI_wA_ne, aI_wF_ne, fI_wA_ne, fI_wF_ne, fI_wF_nk, aL_wAL_ne, J_sameA, J_sameF, aL_same, Nat.add_left_cancel_iff, Nat.add_eq_left, Nat.left_eq_add, not_false_eq_true, Nat.reduceEqDiff, Nat.reduceAdd, J_add, J_sub, J_mul, J_neg, J_and, J_or, J_xor, J_shl, J_shr, J_div, J_i2b, J_i2l, J_l2i, J_lcm, J_max, J_min, J_nab, J_nao, rdA, rdF, rdL, wA_fold, wF_fold, wL_fold, wC_fold]
  refine ⟨(ls256 C_h), ?_⟩
  obtain ⟨k3, w⟩ := w
  refine ⟨fun c1 => ?_, fun c1 => ?_⟩
  · have t2 : fI h 256 2 < x3 := ((Jlt (rg_toInt _) k3).mp c1)
    replace w := w.1 t2
    refine ⟨(ls256 C_h), ?_⟩
    exact w
  · have t2 : ¬ fI h 256 2 < x3 := (fun e => c1 ((Jlt (rg_toInt _) k3).mpr e))
    replace w := w.2 t2
    refine ⟨(ls256 C_h), ?_⟩
    refine ⟨(ls256 C_h), ?_⟩
    refine Ex.mono w (Nat.le_refl _) ?_
    rintro v4 h5 ⟨rfl, s8, w⟩
    refine ⟨rfl, ?_⟩
    have C_h5 := Lay_SH s8 C_h
    try simp only [aI_wAL, fI_wAL, aL_wA, aL_wF, aI_wA_ne, aI_wF_ne, fI_wA_ne, fI_wF_ne, fI_wF_nk, aL_wAL_ne, J_sameA, J_sameF, aL_same, Nat.add_left_cancel_iff, Nat.add_eq_left, Nat.left_eq_add, not_false_eq_true, Nat.reduceEqDiff, Nat.reduceAdd, J_add, J_sub, J_mul, J_neg, J_and, J_or, J_xor, J_shl, J_shr, J_div, J_i2b, J_i2l, J_l2i, J_lcm, J_max, J_min, J_nab, J_nao, rdA, rdF, rdL, wA_fold, wF_fold, wL_fold, wC_fold]
    refine ⟨(ls256 C_h5), _, (lr256_37 C_h5), ?_⟩
    obtain ⟨k7, w⟩ := w
    refine Or.inr ⟨congrArg Prod.fst (ls275 C_h5), ixs (ls275 C_h5) k7 (by decide), ?_⟩
    exact w
-- OutwardDoorsModel.gathersRules(I)V at 40
set_option maxRecDepth 20000 in
set_option maxHeartbeats 4000000 in
theorem r277_40 {X : Cst} {d : Nat} {x1 : Int} {x2 : Int} {x3 : Int} {x4 : Int} {l5 : Option Value} {h : AH} {Q : Post} (C_h : Lay h) (hd : 1 ≤ d)
  (w : (-2147483648 ≤ x4 ∧ x4 < 2147483648) ∧ ((60 < x4 → (∀ h5, SH h h5 → (Fr (fun c j => c = 266 ∧ j < 34) h h5 ∧ aI h5 266 = mix 34 (aI h 271) (aI h 266)) → Ex X PG (d + 1) 277 11 [some (.ref 256), some (.int (J x1)), some (.int (J x2)), some (.int (J (x3 + 1))), some (.int (J x4)), l5] [] h5 Q)) ∧ (¬ 60 < x4 → (0 ≤ x3 ∧ x3 < 7) ∧ ((aI h 275 x3 = 0 → Ex X PG (d + 1) 277 77 [some (.ref 256), some (.int (J x1)), some (.int (J x2)), some (.int (J x3)), some (.int (J x4)), some (.int (J 0))] [] (wA h 275 x3 (nao 0)) Q) ∧ (¬ aI h 275 x3 = 0 → Ex X PG d 279 0 [some (.ref 256), none, none] [] h (fun v13 h14 => ∃ r15 : Int, (-2147483648 ≤ r15 ∧ r15 < 2147483648) ∧ v13 = some (.int (J r15)) ∧ SH h h14 ∧ ((r15 = 0 → Ex X PG (d + 1) 277 77 [some (.ref 256), some (.int (J x1)), some (.int (J x2)), some (.int (J x3)), some (.int (J x4)), some (.int (J 0))] [] (wA h14 275 x3 (nao 0)) Q) ∧ (¬ r15 = 0 → Ex X PG (d + 1) 277 77 [some (.ref 256), some (.int (J x1)), some (.int (J x2)), some (.int (J x3)), some (.int (J x4)), some (.int (J 0))] [] (wA h14 275 x3 (nao 1)) Q)))))))) :
    Ex X PG (d + 1) 277 40 [some (.ref 256), some (.int (J x1)), some (.int (J x2)), some (.int (J x3)), some (.int (J x4)), l5] [] h Q := by
  refine wpx_ok (cut := [11, 40, 77]) 19 d 277 40 _ _ _ _ ?_
  show (((J 60) < (J x4) → hs h 256 = (0, 11) ∧ Ex X PG d 252 0 [some (.ref 256), none] [] h (fun v4 h5 => v4 = none ∧ Ex X PG (d + 1) 277 11 [some (.ref 256), some (.int (J x1)), some (.int (J x2)), some (.int ((J x3) + (J 1))), some (.int (J x4)), l5] [] h5 Q)) ∧ (¬ ((J 60) < (J x4)) → hs h 256 = (0, 11) ∧ ∃ q8, hR h 256 37 = some q8 ∧ hs h 256 = (0, 11) ∧ ∃ q9, hR h 256 37 = some q9 ∧ ((hs h q9).1 = 3 ∨ (hs h q9).1 = 4) ∧ ix (J x3) (hs h q9).2 ∧ (((hI h q9 (Int32.toNatClampNeg (J x3))) = (J 0) → (((hs h q8).1 = 3 ∧ ix (J x3) (hs h q8).2 ∧ Ex X PG (d + 1) 277 77 [some (.ref 256), some (.int (J x1)), some (.int (J x2)), some (.int (J x3)), some (.int (J x4)), some (.int (J 0))] [] (wI h q8 (Int32.toNatClampNeg (J x3)) (vp_nar .byte (J 0))) Q) ∨ ((hs h q8).1 = 4 ∧ ix (J x3) (hs h q8).2 ∧ Ex X PG (d + 1) 277 77 [some (.ref 256), some (.int (J x1)), some (.int (J x2)), some (.int (J x3)), some (.int (J x4)), some (.int (J 0))] [] (wI h q8 (Int32.toNatClampNeg (J x3)) (vp_nar .boolean (J 0))) Q))) ∧ (¬ ((hI h q9 (Int32.toNatClampNeg (J x3))) = (J 0)) → hs h 256 = (0, 11) ∧ Ex X PG d 279 0 [some (.ref 256), none, none] [] h (fun v13 h14 => ∃ r15, v13 = some (.int r15) ∧ ((r15 = (J 0) → (((hs h14 q8).1 = 3 ∧ ix (J x3) (hs h14 q8).2 ∧ Ex X PG (d + 1) 277 77 [some (.ref 256), some (.int (J x1)), some (.int (J x2)), some (.int (J x3)), some (.int (J x4)), some (.int (J 0))] [] (wI h14 q8 (Int32.toNatClampNeg (J x3)) (vp_nar .byte (J 0))) Q) ∨ ((hs h14 q8).1 = 4 ∧ ix (J x3) (hs h14 q8).2 ∧ Ex X PG (d + 1) 277 77 [some (.ref 256), some (.int (J x1)), some (.int (J x2)), some (.int (J x3)), some (.int (J x4)), some (.int (J 0))] [] (wI h14 q8 (Int32.toNatClampNeg (J x3)) (vp_nar .boolean (J 0))) Q))) ∧ (¬ (r15 = (J 0)) → (((hs h14 q8).1 = 3 ∧ ix (J x3) (hs h14 q8).2 ∧ Ex X PG (d + 1) 277 77 [some (.ref 256), some (.int (J x1)), some (.int (J x2)), some (.int (J x3)), some (.int (J x4)), some (.int (J 0))] [] (wI h14 q8 (Int32.toNatClampNeg (J x3)) (vp_nar .byte (J 1))) Q) ∨ ((hs h14 q8).1 = 4 ∧ ix (J x3) (hs h14 q8).2 ∧ Ex X PG (d + 1) 277 77 [some (.ref 256), some (.int (J x1)), some (.int (J x2)), some (.int (J x3)), some (.int (J x4)), some (.int (J 0))] [] (wI h14 q8 (Int32.toNatClampNeg (J x3)) (vp_nar .boolean (J 1))) Q)))))))))
  try simp only [aI_wAL, fI_wAL, aL_wA, aL_wF, aI_wA_ne, aI_wF_ne, fI_wA_ne, fI_wF_ne, fI_wF_nk, aL_wAL_ne, J_sameA, J_sameF, aL_same, Nat.add_left_cancel_iff, Nat.add_eq_left, Nat.left_eq_add, not_false_eq_true, Nat.reduceEqDiff, Nat.reduceAdd, J_add, J_sub, J_mul, J_neg, J_and, J_or, J_xor, J_shl, J_shr, J_div, J_i2b, J_i2l, J_l2i, J_lcm, J_max, J_min, J_nab, J_nao, rdA, rdF, rdL, wA_fold, wF_fold, wL_fold, wC_fold]
  obtain ⟨k3, w⟩ := w
  refine ⟨fun c1 => ?_, fun c1 => ?_⟩
  · have t2 : 60 < x4 := ((Jlt (by decide) k3).mp c1)
    replace w := w.1 t2
    refine ⟨(ls256 C_h), ?_⟩
    refine m252 (h := h)  C_h (by omega)  ?_
    intro h5 s6 p7
    replace w := w h5 s6 p7
    refine ⟨rfl, ?_⟩
    have C_h5 := Lay_SH s6 C_h
    try simp only [aI_wAL, fI_wAL, aL_wA, aL_wF, aI_wA_ne, aI_wF_ne, fI_wA_ne, fI_wF_ne, fI_wF_nk, aL_wAL_ne, J_sameA, J_sameF, aL_same, Nat.add_left_cancel_iff, Nat.add_eq_left, Nat.left_eq_add, not_false_eq_true, Nat.reduceEqDiff, Nat.reduceAdd, J_add, J_sub, J_mul, J_neg, J_and, J_or, J_xor, J_shl, J_shr, J_div, J_i2b, J_i2l, J_l2i, J_lcm, J_max, J_min, J_nab, J_nao, rdA, rdF, rdL, wA_fold, wF_fold, wL_fold, wC_fold]
    exact w
  · have t2 : ¬ 60 < x4 := (fun e => c1 ((Jlt (by decide) k3).mpr e))
    replace w := w.2 t2
    refine ⟨(ls256 C_h), _, (lr256_37 C_h), ?_⟩
    refine ⟨(ls256 C_h), _, (lr256_37 C_h), ?_⟩
    obtain ⟨k10, w⟩ := w
    refine ⟨Or.inr (congrArg Prod.fst (ls275 C_h)), ixs (ls275 C_h) k10 (by decide), ?_⟩
    refine ⟨fun c11 => ?_, fun c11 => ?_⟩
    · have t12 : aI h 275 x3 = 0 := ((Jeq (rg_toInt _) (by decide)).mp c11)
      replace w := w.1 t12
      refine Or.inr ⟨congrArg Prod.fst (ls275 C_h), ixs (ls275 C_h) k10 (by decide), ?_⟩
      exact w
    · have t12 : ¬ aI h 275 x3 = 0 := (fun e => c11 ((Jeq (rg_toInt _) (by decide)).mpr e))
      replace w := w.2 t12
      refine ⟨(ls256 C_h), ?_⟩
      refine Ex.mono w (Nat.le_refl _) ?_
      rintro v13 h14 ⟨r15, gr15, rfl, s18, w⟩
      refine ⟨_, rfl, ?_⟩
      have C_h14 := Lay_SH s18 C_h
      try simp only [aI_wAL, fI_wAL, aL_wA, aL_wF, aI_wA_ne, aI_wF_ne, fI_wA_ne, fI_wF_ne, fI_wF_nk, aL_wAL_ne, J_sameA, J_sameF, aL_same, Nat.add_left_cancel_iff, Nat.add_eq_left, Nat.left_eq_add, not_false_eq_true, Nat.reduceEqDiff, Nat.reduceAdd, J_add, J_sub, J_mul, J_neg, J_and, J_or, J_xor, J_shl, J_shr, J_div, J_i2b, J_i2l, J_l2i, J_lcm, J_max, J_min, J_nab, J_nao, rdA, rdF, rdL, wA_fold, wF_fold, wL_fold, wC_fold]
      refine ⟨fun c16 => ?_, fun c16 => ?_⟩
      · have t17 : r15 = 0 := ((Jeq gr15 (by decide)).mp c16)
        replace w := w.1 t17
        refine Or.inr ⟨congrArg Prod.fst (ls275 C_h14), ixs (ls275 C_h14) k10 (by decide), ?_⟩
        exact w
      · have t17 : ¬ r15 = 0 := (fun e => c16 ((Jeq gr15 (by decide)).mpr e))
        replace w := w.2 t17
        refine Or.inr ⟨congrArg Prod.fst (ls275 C_h14), ixs (ls275 C_h14) k10 (by decide), ?_⟩
        exact w
-- OutwardDoorsModel.gathersRules(I)V at 77
set_option maxRecDepth 20000 in
set_option maxHeartbeats 4000000 in
theorem r277_77 {X : Cst} {d : Nat} {x1 : Int} {x2 : Int} {x3 : Int} {x4 : Int} {x5 : Int} {h : AH} {Q : Post} (C_h : Lay h) (hd : 1 ≤ d)
  (w : (-2147483648 ≤ x5 ∧ x5 < 2147483648) ∧ ((aI h 266 2 ≤ x5 → Ex X PG d 233 0 [some (.ref 256), none, none, none] [] h (fun v5 h6 => ∃ r7 : Int, (-2147483648 ≤ r7 ∧ r7 < 2147483648) ∧ v5 = some (.int (J r7)) ∧ SH h h6 ∧ Ex X PG (d + 1) 277 40 [some (.ref 256), some (.int (J x1)), some (.int (J x2)), some (.int (J x3)), some (.int (J (x4 + 1))), some (.int (J x5))] [] h6 Q)) ∧ (¬ aI h 266 2 ≤ x5 → (-2147483648 ≤ x4 ∧ x4 < 2147483648) ∧ (-2147483648 ≤ x1 ∧ x1 < 2147483648) ∧ ((¬ x4 = x1 → Ex X PG d 233 0 [some (.ref 256), none, none, none] [] h (fun v13 h14 => ∃ r15 : Int, (-2147483648 ≤ r15 ∧ r15 < 2147483648) ∧ v13 = some (.int (J r15)) ∧ SH h h14 ∧ Ex X PG (d + 1) 277 40 [some (.ref 256), some (.int (J x1)), some (.int (J x2)), some (.int (J x3)), some (.int (J (x4 + 1))), some (.int (J x5))] [] h14 Q)) ∧ (x4 = x1 → (0 ≤ 10 + 6 * x5 + 0 ∧ 10 + 6 * x5 + 0 < 123) ∧ (0 ≤ (4 * x3) + x5 ∧ (4 * x3) + x5 < 28) ∧ Ex X PG (d + 1) 277 77 [some (.ref 256), some (.int (J x1)), some (.int (J x2)), some (.int (J x3)), some (.int (J x4)), some (.int (J (x5 + 1)))] [] (wA h 276 ((4 * x3) + x5) (pS (aI h 266) x5 0)) Q))))) :
    Ex X PG (d + 1) 277 77 [some (.ref 256), some (.int (J x1)), some (.int (J x2)), some (.int (J x3)), some (.int (J x4)), some (.int (J x5))] [] h Q := by
  refine wpx_ok (cut := [11, 40, 77]) 23 d 277 77 _ _ _ _ ?_
  show hs h 256 = (0, 11) ∧ ∃ q1, hR h 256 20 = some q1 ∧ (hs h q1).1 = 1 ∧ ix (J 2) (hs h q1).2 ∧ (((hI h q1 (Int32.toNatClampNeg (J 2))) ≤ (J x5) → hs h 256 = (0, 11) ∧ Ex X PG d 233 0 [some (.ref 256), none, none, none] [] h (fun v5 h6 => ∃ r7, v5 = some (.int r7) ∧ Ex X PG (d + 1) 277 40 [some (.ref 256), some (.int (J x1)), some (.int (J x2)), some (.int (J x3)), some (.int ((J x4) + (J 1))), some (.int (J x5))] [] h6 Q)) ∧ (¬ ((hI h q1 (Int32.toNatClampNeg (J 2))) ≤ (J x5)) → ((¬ (J x4) = (J x1) → hs h 256 = (0, 11) ∧ Ex X PG d 233 0 [some (.ref 256), none, none, none] [] h (fun v13 h14 => ∃ r15, v13 = some (.int r15) ∧ Ex X PG (d + 1) 277 40 [some (.ref 256), some (.int (J x1)), some (.int (J x2)), some (.int (J x3)), some (.int ((J x4) + (J 1))), some (.int (J x5))] [] h14 Q)) ∧ (¬ (¬ (J x4) = (J x1)) → hs h 256 = (0, 11) ∧ ∃ q17, hR h 256 38 = some q17 ∧ hs h 256 = (0, 11) ∧ Ex X PG d 209 0 [some (.ref 256), some (.int (J x5)), some (.int (J 0))] [] h (fun v18 h19 => ∃ r20, v18 = some (.int r20) ∧ (hs h19 q17).1 = 1 ∧ ix (((J 4) * (J x3)) + (J x5)) (hs h19 q17).2 ∧ Ex X PG (d + 1) 277 77 [some (.ref 256), some (.int (J x1)), some (.int (J x2)), some (.int (J x3)), some (.int (J x4)), some (.int ((J x5) + (J 1)))] [] (wI h19 q17 (Int32.toNatClampNeg (((J 4) * (J x3)) + (J x5))) r20) Q)))))
  try simp only [aI_wAL, fI_wAL, aL_wA, aL_wF, aI_wA_ne, aI_wF_ne, fI_wA_ne, fI_wF_ne, fI_wF_nk, aL_wAL_ne, J_sameA, J_sameF, aL_same, Nat.add_left_cancel_iff, Nat.add_eq_left, Nat.left_eq_add, not_false_eq_true, Nat.reduceEqDiff, Nat.reduceAdd, J_add, J_sub, J_mul, J_neg, J_and, J_or, J_xor, J_shl, J_shr, J_div, J_i2b, J_i2l, J_l2i, J_lcm, J_max, J_min, J_nab, J_nao, rdA, rdF, rdL, wA_fold, wF_fold, wL_fold, wC_fold]
  refine ⟨(ls256 C_h), _, (lr256_20 C_h), ?_⟩
  refine ⟨congrArg Prod.fst (ls266 C_h), ixs (ls266 C_h) (by decide) (by decide), ?_⟩
  obtain ⟨k4, w⟩ := w
  refine ⟨fun c2 => ?_, fun c2 => ?_⟩
  · have t3 : aI h 266 2 ≤ x5 := ((Jle (rg_toInt _) k4).mp c2)
    replace w := w.1 t3
    refine ⟨(ls256 C_h), ?_⟩
    refine Ex.mono w (Nat.le_refl _) ?_
    rintro v5 h6 ⟨r7, gr7, rfl, s8, w⟩
    refine ⟨_, rfl, ?_⟩
    have C_h6 := Lay_SH s8 C_h
    try simp only [aI_wAL, fI_wAL, aL_wA, aL_wF, aI_wA_ne, aI_wF_ne, fI_wA_ne, fI_wF_ne, fI_wF_nk, aL_wAL_ne, J_sameA, J_sameF, aL_same, Nat.add_left_cancel_iff, Nat.add_eq_left, Nat.left_eq_add, not_false_eq_true, Nat.reduceEqDiff, Nat.reduceAdd, J_add, J_sub, J_mul, J_neg, J_and, J_or, J_xor, J_shl, J_shr, J_div, J_i2b, J_i2l, J_l2i, J_lcm, J_max, J_min, J_nab, J_nao, rdA, rdF, rdL, wA_fold, wF_fold, wL_fold, wC_fold]
    exact w
  · have t3 : ¬ aI h 266 2 ≤ x5 := (fun e => c2 ((Jle (rg_toInt _) k4).mpr e))
    replace w := w.2 t3
    obtain ⟨k11, w⟩ := w
    obtain ⟨k12, w⟩ := w
    refine ⟨fun c9 => ?_, fun c9 => ?_⟩
    · have t10 : ¬ x4 = x1 := (fun e => c9 ((Jeq k11 k12).mpr e))
      replace w := w.1 t10
      refine ⟨(ls256 C_h), ?_⟩
      refine Ex.mono w (Nat.le_refl _) ?_
      rintro v13 h14 ⟨r15, gr15, rfl, s16, w⟩
      refine ⟨_, rfl, ?_⟩
      have C_h14 := Lay_SH s16 C_h
      try simp only [aI_wAL, fI_wAL, aL_wA, aL_wF, aI_wA_ne, aI_wF_ne, fI_wA_ne, fI_wF_ne, fI_wF_nk, aL_wAL_ne, J_sameA, J_sameF, aL_same, Nat.add_left_cancel_iff, Nat.add_eq_left, Nat.left_eq_add, not_false_eq_true, Nat.reduceEqDiff, Nat.reduceAdd, J_add, J_sub, J_mul, J_neg, J_and, J_or, J_xor, J_shl, J_shr, J_div, J_i2b, J_i2l, J_l2i, J_lcm, J_max, J_min, J_nab, J_nao, rdA, rdF, rdL, wA_fold, wF_fold, wL_fold, wC_fold]
      exact w
    · have t10 : x4 = x1 := ((Jeq k11 k12).mp (Classical.byContradiction c9))
      replace w := w.2 t10
      refine ⟨(ls256 C_h), _, (lr256_38 C_h), ?_⟩
      refine ⟨(ls256 C_h), ?_⟩
      obtain ⟨k21, w⟩ := w
      refine m209 (h := h) (p := x5) (w := 0) C_h (by omega) k21 ?_
      refine ⟨_, rfl, ?_⟩
      try simp only [aI_wAL, fI_wAL, aL_wA, aL_wF, aI_wA_ne, aI_wF_ne, fI_wA_ne, fI_wF_ne, fI_wF_nk, aL_wAL_ne, J_sameA, J_sameF, aL_same, Nat.add_left_cancel_iff, Nat.add_eq_left, Nat.left_eq_add, not_false_eq_true, Nat.reduceEqDiff, Nat.reduceAdd, J_add, J_sub, J_mul, J_neg, J_and, J_or, J_xor, J_shl, J_shr, J_div, J_i2b, J_i2l, J_l2i, J_lcm, J_max, J_min, J_nab, J_nao, rdA, rdF, rdL, wA_fold, wF_fold, wL_fold, wC_fold]
      obtain ⟨k22, w⟩ := w
      refine ⟨congrArg Prod.fst (ls276 C_h), ixs (ls276 C_h) k22 (by decide), ?_⟩
      exact w
theorem m277 {X : Cst} {d : Nat} {n N f r : Int} {Rs : Int → Ru} {h : AH} {Q : Post} (C : Lay h) (hd : 12 ≤ d) (W : WF N (aI h 266)) (ef : fI h 256 21 = f) (er : fI h 256 2 = r) (hr : 0 ≤ r ∧ r ≤ 6) (RO : ∀ g, -1 ≤ g → g < r → RefOK h g Rs) (hn : 0 ≤ n ∧ n ≤ 60)
    (k : ∀ h', Fr TRf h h' → fI h' 256 21 = f → aI h' 266 = aI h 266 → (∀ j, 0 ≤ j → j ≤ r → aI h' 275 j = bI (fit (j - 1) Rs (aI h 266)) ∧ ∀ p, 0 ≤ p → p < aI h 266 2 → aI h' 276 (4 * j + p) = pS (momI (j - 1) Rs n.toNat (begS (aI h 266))) p 0) → Q none h') : Ex X PG d 277 0 [some (.ref 256), some (.int (J n)), none, none, none, none] [] h Q := by
  obtain ⟨d, rfl⟩ : ∃ e, d = e + 1 := ⟨d - 1, by omega⟩
  have b := W.1
  unfold WFb at b
  have nn := W.2.2.2.2.2.1
  have n0 := nn.1
  have n1 := nn.2.1
  obtain ⟨BW, BS⟩ := begS_WF W
  have tS : Tn (aI h 266) := Tn_aI h 266
  generalize hS : aI h 266 = S at *
  have fl : ∀ c k, TP c k → TRf c k := fun c k z => by unfold TP at z; unfold TRf TRs TR; omega
  have keep : ∀ c k, TRf c k → ¬ c = 258 ∧ ¬ c = 260 ∧ ¬ c = 261 := fun c k z => by unfold TRf TRs TR at z; omega
  have b2 : begS S 2 = S 2 := begS_k W (by decide) (by decide)
  have m2 : ∀ (g : Int) (m : Nat), momI g Rs m (begS S) 2 = S 2 := fun g m => by rw [momI_k BW (Or.inl (by decide))]; exact b2
  have mk : ∀ (g : Int) (m : Nat) (q : Int), 34 ≤ q → q < 2147483648 → momI g Rs m (begS S) q = S q := fun g m q q0 q1 => by rw [momI_k BW (Or.inr ⟨q0, q1⟩)]; exact begS_k W (by omega) (by omega)
  refine r277_0 C (by omega) (fun h2 s2 p2 => ?_)
  rw [ef]
  have F2 : Fr TRf h h2 := p2.1.mo fun c k z => by unfold TRf TRs TR; omega
  have k2 : aI h2 271 = mix 34 S (aI h 271) := by rw [p2.2, hS]
  have lo : ∀ (z : Nat) (j : Int) (h' : AH) (l4 l5 : Option Value), r + 1 - j = z → 0 ≤ j → Fr TRf h h' → aI h' 266 = S → aI h' 271 = mix 34 S (aI h 271) → (∀ i, 0 ≤ i → i < j → aI h' 275 i = bI (fit (i - 1) Rs S) ∧ ∀ p, 0 ≤ p → p < S 2 → aI h' 276 (4 * i + p) = pS (momI (i - 1) Rs n.toNat (begS S)) p 0) → Ex X PG (d + 1) 277 11 [some (.ref 256), some (.int (J n)), some (.int (J f)), some (.int (J j)), l4, l5] [] h' Q := by
    intro z
    induction z with
    | zero =>
      intro j h' l4 l5 e1 e2 F e6 e7 pa
      refine r277_11 (F.C C) ?_
      rw [F.f 256 2 (fun z => by unfold TRf TRs TR at z; omega), er]
      refine ⟨by omega, fun _ => ?_, fun z => absurd (by omega) z⟩
      have fr := fI_rg h 256 21
      rw [ef] at fr
      refine k _ (F.wF (Or.inr ⟨rfl, rfl⟩)) (fI_wF_eq fr) (by rw [aI_wF_ne (by decide)]; exact e6) (fun i i0 i1 => ?_)
      rw [aI_wF_ne (by decide), aI_wF_ne (by decide)]
      exact pa i i0 (by omega)
    | succ z ih =>
      intro j h' l4 l5 e1 e2 F e6 e7 pa
      refine r277_11 (F.C C) ?_
      rw [F.f 256 2 (fun z => by unfold TRf TRs TR at z; omega), er]
      refine ⟨by omega, fun z => absurd z (by omega), fun _ => ?_⟩
      have F1 : Fr TRf h (wF h' 256 21 (j - 1)) := F.wF (Or.inr ⟨rfl, rfl⟩)
      have e61 : aI (wF h' 256 21 (j - 1)) 266 = S := by rw [aI_wF_ne (by decide)]; exact e6
      refine m278 (F1.C C) (by omega) (by rw [e61]; omega) (fun h5 F5 e5 => ?_)
      refine ⟨rfl, F5.1, by omega, ?_⟩
      rw [e61] at e5
      rw [nao_1]
      have F15 : Fr TRf h h5 := F1.tr (F5.mo fun c k z => by unfold TRf TRs; omega)
      -- one rule, MOMENT by MOMENT
      have li : ∀ (y m : Nat) (h' : AH) (l5 : Option Value), 61 - m = y → m ≤ 61 → Fr TRf h h' → fI h' 256 21 = j - 1 → aI h' 266 = momI (j - 1) Rs m (begS S) → aI h' 271 = mix 34 S (aI h 271) → (∀ i, 0 ≤ i → i < j → aI h' 275 i = bI (fit (i - 1) Rs S) ∧ ∀ p, 0 ≤ p → p < S 2 → aI h' 276 (4 * i + p) = pS (momI (i - 1) Rs n.toNat (begS S)) p 0) → aI h' 275 j = bI (fitB (j - 1) Rs S m) → (n < m → ∀ p, 0 ≤ p → p < S 2 → aI h' 276 (4 * j + p) = pS (momI (j - 1) Rs n.toNat (begS S)) p 0) → Ex X PG (d + 1) 277 40 [some (.ref 256), some (.int (J n)), some (.int (J f)), some (.int (J j)), some (.int (J (m : Int))), l5] [] h' Q := by
        intro y
        induction y with
        | zero =>
          intro m h' l5 i1 i2 F ff e6 e7 pa pf pr
          refine r277_40 (F.C C) (by omega) ⟨by omega, fun _ h5 s5 p5 => ?_, fun z => absurd (by omega) z⟩
          refine ih (j + 1) h5 _ _ (by omega) (by omega) (F.tr (p5.1.mo fun c k z => by unfold TRf TRs; omega)) ?_ ?_ (fun i i0 i1 => ?_)
          · rw [p5.2, e7, e6]
            exact back34 tS (Tn_momI (Tn_begN tS _) _) (fun k k0 k1 => mk _ _ k k0 k1)
          · rw [p5.1.a 271 (fun k z => by omega)]; exact e7
          · rw [p5.1.a 275 (fun k z => by omega), p5.1.a 276 (fun k z => by omega)]
            by_cases q : i = j
            · subst q
              refine ⟨?_, pr (by omega)⟩
              rw [pf, show m = 61 by omega]; rfl
            · exact pa i i0 (by omega)
        | succ y ih2 =>
          intro m h' l5 i1 i2 F ff e6 e7 pa pf pr
          refine r277_40 (F.C C) (by omega) ⟨by omega, fun z => absurd z (by omega), fun _ => ⟨by omega, ?_⟩⟩
          have wm : WF 999 (momI (j - 1) Rs m (begS S)) := (momI_WF BW m).up (by omega)
          -- behind the notes: the rooms, and the MOMENT
          have l7 : ∀ (w : Nat) (p : Int) (h' : AH), S 2 - p = w → 0 ≤ p → Fr TRf h h' → fI h' 256 21 = j - 1 → aI h' 266 = momI (j - 1) Rs m (begS S) → aI h' 271 = mix 34 S (aI h 271) → (∀ i, 0 ≤ i → i < j → aI h' 275 i = bI (fit (i - 1) Rs S) ∧ ∀ p, 0 ≤ p → p < S 2 → aI h' 276 (4 * i + p) = pS (momI (i - 1) Rs n.toNat (begS S)) p 0) → aI h' 275 j = bI (fitB (j - 1) Rs S (m + 1)) → (n < m → ∀ p, 0 ≤ p → p < S 2 → aI h' 276 (4 * j + p) = pS (momI (j - 1) Rs n.toNat (begS S)) p 0) → (n = m → ∀ q, 0 ≤ q → q < p → aI h' 276 (4 * j + q) = pS (momI (j - 1) Rs n.toNat (begS S)) q 0) → Ex X PG (d + 1) 277 77 [some (.ref 256), some (.int (J n)), some (.int (J f)), some (.int (J j)), some (.int (J (m : Int))), some (.int (J p))] [] h' Q := by
            have ps : ∀ (h' : AH) (l5 : Option Value), Fr TRf h h' → fI h' 256 21 = j - 1 → aI h' 266 = momI (j - 1) Rs m (begS S) → aI h' 271 = mix 34 S (aI h 271) → (∀ i, 0 ≤ i → i < j → aI h' 275 i = bI (fit (i - 1) Rs S) ∧ ∀ p, 0 ≤ p → p < S 2 → aI h' 276 (4 * i + p) = pS (momI (i - 1) Rs n.toNat (begS S)) p 0) → aI h' 275 j = bI (fitB (j - 1) Rs S (m + 1)) → (n ≤ m → ∀ p, 0 ≤ p → p < S 2 → aI h' 276 (4 * j + p) = pS (momI (j - 1) Rs n.toNat (begS S)) p 0) → Ex X PG d 233 0 [some (.ref 256), none, none, none] [] h' (fun v5 h6 => ∃ r7 : Int, (-2147483648 ≤ r7 ∧ r7 < 2147483648) ∧ v5 = some (.int (J r7)) ∧ SH h' h6 ∧ Ex X PG (d + 1) 277 40 [some (.ref 256), some (.int (J n)), some (.int (J f)), some (.int (J j)), some (.int (J ((m : Int) + 1))), l5] [] h6 Q) := by
              intro h' l5 F ff e6 e7 pa pf pr
              refine m233f (f := j - 1) (Rs := Rs) (F.C C) (by omega) (by rw [e6]; exact wm) ff ((RO (j - 1) (by omega) (by omega)).fr F keep) (fun h6 F6 e66 => ?_)
              refine ⟨_, momN_rg (by rw [e6]; exact wm), rfl, F6.1, ?_⟩
              refine ih2 (m + 1) h6 l5 (by omega) (by omega) (F.tr (F6.mo fl)) ?_ ?_ ?_ (fun i i0 i1 => ?_) ?_ (fun z p p0 p1 => ?_)
              · rw [F6.f 256 21 (fun z => by unfold TP at z; omega)]; exact ff
              · rw [e66, e6]; rfl
              · rw [F6.a 271 (fun k z => by unfold TP at z; omega)]; exact e7
              · rw [F6.a 275 (fun k z => by unfold TP at z; omega), F6.a 276 (fun k z => by unfold TP at z; omega)]; exact pa i i0 i1
              · rw [F6.a 275 (fun k z => by unfold TP at z; omega)]; exact pf
              · rw [F6.a 276 (fun k z => by unfold TP at z; omega)]; exact pr (by omega) p p0 p1
            intro w
            induction w with
            | zero =>
              intro p h' u1 u2 F ff e6 e7 pa pf pr pq
              refine r277_77 (F.C C) (by omega) ?_
              have q2 : aI h' 266 2 = S 2 := by rw [e6]; exact m2 _ _
              rw [q2]
              refine ⟨by omega, fun _ => ?_, fun z => absurd (by omega) z⟩
              refine ps h' _ F ff e6 e7 pa pf (fun z p' p0 p1 => ?_)
              by_cases c : n = m
              · exact pq c p' p0 (by omega)
              · exact pr (by omega) p' p0 p1
            | succ w ih3 =>
              intro p h' u1 u2 F ff e6 e7 pa pf pr pq
              refine r277_77 (F.C C) (by omega) ?_
              have q2 : aI h' 266 2 = S 2 := by rw [e6]; exact m2 _ _
              rw [q2]
              refine ⟨by omega, fun z => absurd z (by omega), fun _ => ⟨by omega, by omega, fun c => ?_, fun c => ⟨by omega, by omega, ?_⟩⟩⟩
              · exact ps h' _ F ff e6 e7 pa pf (fun z p' p0 p1 => pr (by omega) p' p0 p1)
              · have rgp : -2147483648 ≤ pS (aI h' 266) p 0 ∧ pS (aI h' 266) p 0 < 2147483648 := aI_rg _ _ _
                refine ih3 (p + 1) _ (by omega) (by omega) (F.wA (by unfold TRf TRs TR; omega)) (by rw [fI_wA_ne (by decide)]; exact ff) (by rw [aI_wA_ne (by decide)]; exact e6) (by rw [aI_wA_ne (by decide)]; exact e7) (fun i i0 i1 => ?_) (by rw [aI_wA_ne (by decide)]; exact pf) (fun z p' p0 p1 => by omega) (fun z q q0 q1 => ?_)
                · rw [aI_wA_ne (by decide), aI_wA rgp]
                  refine ⟨(pa i i0 i1).1, fun p' p0 p1 => ?_⟩
                  rw [uu_ne (by omega) (by omega) (by omega)]
                  exact (pa i i0 i1).2 p' p0 p1
                · rw [aI_wA rgp]
                  by_cases cq : q = p
                  · subst cq
                    rw [uu_eq, e6, show n.toNat = m by omega]
                  · rw [uu_ne (by omega) (by omega) (by omega)]
                    exact pq z q q0 (by omega)
          -- the notes
          have u3 : momI (j - 1) Rs m (begS S) 3 = m := by
            rw [momI_3]
            have : begS S 3 = 0 := begN_3 _ (by omega)
            omega
          have nt : ntS (momI (j - 1) Rs m (begS S)) (momI (j - 1) Rs m (begS S)) (momI (j - 1) Rs m (begS S) 3) ↔ ntS S (momI (j - 1) Rs m (begS S)) m := by
            rw [u3]
            unfold ntS
            rw [mk _ _ 114 (by omega) (by omega)]
            constructor
            · intro H i i0 i1 e
              have := H i i0 i1
              rw [mk _ _ _ (by omega) (by omega), mk _ _ (84 + 3 * i + 1) (by omega) (by omega), mk _ _ (84 + 3 * i + 2) (by omega) (by omega)] at this
              exact this e
            · intro H i i0 i1
              rw [mk _ _ _ (by omega) (by omega), mk _ _ (84 + 3 * i + 1) (by omega) (by omega), mk _ _ (84 + 3 * i + 2) (by omega) (by omega)]
              exact H i i0 i1
          have go : ∀ v : Int, (v = 0 ∨ v = 1) → v = bI (fitB (j - 1) Rs S (m + 1)) → Ex X PG (d + 1) 277 77 [some (.ref 256), some (.int (J n)), some (.int (J f)), some (.int (J j)), some (.int (J (m : Int))), some (.int (J 0))] [] (wA h' 275 j v) Q := by
            intro v v01 ev
            have vr : -2147483648 ≤ v ∧ v < 2147483648 := by omega
            refine l7 (S 2).toNat 0 _ (by omega) (by omega) (F.wA (by unfold TRf TRs TR; omega)) (by rw [fI_wA_ne (by decide)]; exact ff) (by rw [aI_wA_ne (by decide)]; exact e6) (by rw [aI_wA_ne (by decide)]; exact e7) (fun i i0 i1 => ?_) (by rw [aI_wA vr, uu_eq]; exact ev) (fun z p p0 p1 => by rw [aI_wA_ne (by decide)]; exact pr z p p0 p1) (fun z q q0 q1 => by omega)
            rw [aI_wA vr, uu_ne (by omega) (by omega) (by omega), aI_wA_ne (by decide)]
            exact pa i i0 i1
          have fs : fitB (j - 1) Rs S (m + 1) ↔ fitB (j - 1) Rs S m ∧ ntS S (momI (j - 1) Rs m (begS S)) m :=
            ⟨fun H => ⟨fun i hi => H i (by omega), H m (by omega)⟩, fun H i hi => by
              by_cases q : i = m
              · subst q; exact H.2
              · exact H.1 i (by omega)⟩
          rw [pf, nao_0, nao_1]
          have bo := bI_or (fitB (j - 1) Rs S m)
          refine ⟨fun c => ?_, fun c => ?_⟩
          · refine go 0 (Or.inl rfl) ?_
            have : ¬ fitB (j - 1) Rs S m := fun z => by rw [bI_pos z] at c; omega
            rw [bI_neg (fun z => this (fs.mp z).1)]
          · have hf : fitB (j - 1) Rs S m := by
              apply Classical.byContradiction
              intro z
              rw [bI_neg z] at c; omega
            refine m279 (F.C C) (by omega) (by rw [e6]; exact wm) ?_
            rw [e6, bI_iff nt]
            refine ⟨_, bI_rg _, rfl, SH.rf, fun c2 => ?_, fun c2 => ?_⟩
            · refine go 0 (Or.inl rfl) ?_
              have : ¬ ntS S (momI (j - 1) Rs m (begS S)) m := fun z => by rw [bI_pos z] at c2; omega
              rw [bI_neg (fun z => this (fs.mp z).2)]
            · refine go 1 (Or.inr rfl) ?_
              have : ntS S (momI (j - 1) Rs m (begS S)) m := by
                apply Classical.byContradiction
                intro z
                rw [bI_neg z] at c2; omega
              rw [bI_pos (fs.mpr ⟨hf, this⟩)]
      refine li 61 0 _ _ (by omega) (by omega) (F15.wA (by unfold TRf TRs TR; omega)) ?_ ?_ ?_ (fun i i0 i1 => ?_) ?_ (fun z => absurd z (by omega))
      · rw [fI_wA_ne (by decide), F5.f 256 21 (by decide), fI_wF_eq (by omega)]
      · rw [aI_wA_ne (by decide), e5]; rfl
      · rw [aI_wA_ne (by decide), F5.a 271 (fun k => by decide), aI_wF_ne (by decide)]; exact e7
      · rw [aI_wA (by decide), uu_ne (by omega) (by omega) (by omega), F5.a 275 (fun k => by decide), aI_wF_ne (by decide), aI_wA_ne (by decide), F5.a 276 (fun k => by decide), aI_wF_ne (by decide)]
        exact pa i i0 i1
      · rw [aI_wA (by decide), uu_eq, bI_pos (show fitB (j - 1) Rs S 0 from fun m hm => absurd hm (by omega))]
  exact lo (r + 1).toNat 0 h2 _ _ (by omega) (by omega) F2 (by rw [p2.1.a 266 (fun k z => by omega)]; exact hS) k2 (fun i i0 i1 => by omega)
/-- among the rules from the last one down, j of them: how many keep P, and the first -/
noncomputable def rf (P : Int → Prop) (r : Int) : Nat → Int × Int
  | 0 => (0, -2)
  | j + 1 => pI (P (r - 1 - j)) ((rf P r j).1 + 1, r - 1 - (j : Int)) (rf P r j)
theorem rf_b (P : Int → Prop) (r : Int) : ∀ j : Nat, 0 ≤ (rf P r j).1 ∧ (rf P r j).1 ≤ j := by
  intro j
  induction j with
  | zero => exact ⟨Int.le_refl 0, Int.le_refl 0⟩
  | succ j ih =>
    show 0 ≤ (pI (P (r - 1 - j)) ((rf P r j).1 + 1, r - 1 - (j : Int)) (rf P r j)).1 ∧ (pI (P (r - 1 - j)) ((rf P r j).1 + 1, r - 1 - (j : Int)) (rf P r j)).1 ≤ _
    by_cases c : P (r - 1 - j)
    · rw [pI_pos c]; show 0 ≤ (rf P r j).1 + 1 ∧ (rf P r j).1 + 1 ≤ _; omega
    · rw [pI_neg c]; omega
noncomputable def anRuled (Rs : Int → Ru) (S : Int → Int) (r w : Int) : Int := if 0 < S 0 ∧ (0 ≤ w ∧ w ≤ 1) then (if w = 0 then (rf (fun g => fit g Rs S) r (r + 1).toNat).1 else (rf (fun g => fit g Rs S) r (r + 1).toNat).2) else -3
-- OutwardDoorsModel.ruled(I)I at 0
set_option maxRecDepth 20000 in
set_option maxHeartbeats 4000000 in
theorem r276_0 {X : Cst} {d : Nat} {x1 : Int} {h : AH} {Q : Post} (C_h : Lay h) (hd : 1 ≤ d)
  (w : ((¬ (0 < aI h 266 0) → Q (some (.int (J (-3)))) h) ∧ ((0 < aI h 266 0) → (-2147483648 ≤ x1 ∧ x1 < 2147483648) ∧ (((0 ≤ x1 ∧ x1 ≤ 1) → Ex X PG d 277 0 [some (.ref 256), some (.int (J 0)), none, none, none, none] [] h (fun v12 h13 => v12 = none ∧ SH h h13 ∧ Ex X PG (d + 1) 276 36 [some (.ref 256), some (.int (J x1)), some (.int (J 0)), some (.int (J (-2))), some (.int (J (fI h13 256 2)))] [] h13 Q)) ∧ (¬ (0 ≤ x1 ∧ x1 ≤ 1) → Q (some (.int (J (-3)))) h))))) :
    Ex X PG (d + 1) 276 0 [some (.ref 256), some (.int (J x1)), none, none, none] [] h Q := by
  refine wpx_ok (cut := [36]) 19 d 276 0 _ _ _ _ ?_
  show hs h 256 = (0, 11) ∧ Ex X PG d 231 0 [some (.ref 256)] [] h (fun v1 h2 => ∃ r3, v1 = some (.int r3) ∧ ((r3 = (J 0) → Q (some (.int (J (-3)))) h2) ∧ (¬ (r3 = (J 0)) → Ex X PG d 186 0 [some (.long (Int32.toInt64 (J x1))), none, some (.long (0 : Int64)), none, some (.long (1 : Int64)), none] [] h2 (fun v6 h7 => ∃ r8, v6 = some (.int r8) ∧ ((¬ r8 = (J 0) → hs h7 256 = (0, 11) ∧ Ex X PG d 277 0 [some (.ref 256), some (.int (J 0)), none, none, none, none] [] h7 (fun v12 h13 => v12 = none ∧ hs h13 256 = (0, 11) ∧ Ex X PG (d + 1) 276 36 [some (.ref 256), some (.int (J x1)), some (.int (J 0)), some (.int (J (-2))), some (.int (hF h13 256 2))] [] h13 Q)) ∧ (¬ (¬ r8 = (J 0)) → Q (some (.int (J (-3)))) h7))))))
  try simp only [aI_wAL, fI_wAL, aL_wA, aL_wF, aI_wA_ne, aI_wF_ne, fI_wA_ne, fI_wF_ne, fI_wF_nk, aL_wAL_ne, J_sameA, J_sameF, aL_same, Nat.add_left_cancel_iff, Nat.add_eq_left, Nat.left_eq_add, not_false_eq_true, Nat.reduceEqDiff, Nat.reduceAdd, J_add, J_sub, J_mul, J_neg, J_and, J_or, J_xor, J_shl, J_shr, J_div, J_i2b, J_i2l, J_l2i, J_lcm, J_max, J_min, J_nab, J_nao, rdA, rdF, rdL, wA_fold, wF_fold, wL_fold, wC_fold]
  refine ⟨(ls256 C_h), ?_⟩
  refine m231 (h := h)  C_h (by omega)  ?_
  refine ⟨_, rfl, ?_⟩
  try simp only [aI_wAL, fI_wAL, aL_wA, aL_wF, aI_wA_ne, aI_wF_ne, fI_wA_ne, fI_wF_ne, fI_wF_nk, aL_wAL_ne, J_sameA, J_sameF, aL_same, Nat.add_left_cancel_iff, Nat.add_eq_left, Nat.left_eq_add, not_false_eq_true, Nat.reduceEqDiff, Nat.reduceAdd, J_add, J_sub, J_mul, J_neg, J_and, J_or, J_xor, J_shl, J_shr, J_div, J_i2b, J_i2l, J_l2i, J_lcm, J_max, J_min, J_nab, J_nao, rdA, rdF, rdL, wA_fold, wF_fold, wL_fold, wC_fold]
  refine ⟨fun c4 => ?_, fun c4 => ?_⟩
  · have t5 : ¬ (0 < aI h 266 0) := ((bI0 _).mp c4)
    replace w := w.1 t5
    exact w
  · have t5 : (0 < aI h 266 0) := (Classical.byContradiction fun n => c4 ((bI0 _).mpr n))
    replace w := w.2 t5
    obtain ⟨k9, w⟩ := w
    refine m186 (h := h) (v := x1) (lo := 0) (hi := 1) C_h (by omega) k9 (by decide) (by decide) ?_
    refine ⟨_, rfl, ?_⟩
    try simp only [aI_wAL, fI_wAL, aL_wA, aL_wF, aI_wA_ne, aI_wF_ne, fI_wA_ne, fI_wF_ne, fI_wF_nk, aL_wAL_ne, J_sameA, J_sameF, aL_same, Nat.add_left_cancel_iff, Nat.add_eq_left, Nat.left_eq_add, not_false_eq_true, Nat.reduceEqDiff, Nat.reduceAdd, J_add, J_sub, J_mul, J_neg, J_and, J_or, J_xor, J_shl, J_shr, J_div, J_i2b, J_i2l, J_l2i, J_lcm, J_max, J_min, J_nab, J_nao, rdA, rdF, rdL, wA_fold, wF_fold, wL_fold, wC_fold]
    refine ⟨fun c10 => ?_, fun c10 => ?_⟩
    · have t11 : (0 ≤ x1 ∧ x1 ≤ 1) := (Classical.byContradiction fun n => c10 ((bI0 _).mpr n))
      replace w := w.1 t11
      refine ⟨(ls256 C_h), ?_⟩
      refine Ex.mono w (Nat.le_refl _) ?_
      rintro v12 h13 ⟨rfl, s14, w⟩
      refine ⟨rfl, ?_⟩
      have C_h13 := Lay_SH s14 C_h
      try simp only [aI_wAL, fI_wAL, aL_wA, aL_wF, aI_wA_ne, aI_wF_ne, fI_wA_ne, fI_wF_ne, fI_wF_nk, aL_wAL_ne, J_sameA, J_sameF, aL_same, Nat.add_left_cancel_iff, Nat.add_eq_left, Nat.left_eq_add, not_false_eq_true, Nat.reduceEqDiff, Nat.reduceAdd, J_add, J_sub, J_mul, J_neg, J_and, J_or, J_xor, J_shl, J_shr, J_div, J_i2b, J_i2l, J_l2i, J_lcm, J_max, J_min, J_nab, J_nao, rdA, rdF, rdL, wA_fold, wF_fold, wL_fold, wC_fold]
      refine ⟨(ls256 C_h13), ?_⟩
      exact w
    · have t11 : ¬ (0 ≤ x1 ∧ x1 ≤ 1) := ((bI0 _).mp (Classical.byContradiction fun n => c10 n))
      replace w := w.2 t11
      exact w
-- OutwardDoorsModel.ruled(I)I at 36
set_option maxRecDepth 20000 in
set_option maxHeartbeats 4000000 in
theorem r276_36 {X : Cst} {d : Nat} {x1 : Int} {x2 : Int} {x3 : Int} {x4 : Int} {h : AH} {Q : Post} (C_h : Lay h)
  (w : (-2147483648 ≤ x4 ∧ x4 < 2147483648) ∧ ((x4 < 0 → (-2147483648 ≤ x1 ∧ x1 < 2147483648) ∧ ((¬ x1 = 0 → Q (some (.int (J x3))) h) ∧ (x1 = 0 → Q (some (.int (J x2))) h))) ∧ (¬ x4 < 0 → (0 ≤ x4 ∧ x4 < 7) ∧ ((¬ aI h 275 x4 = 0 → Ex X PG (d + 1) 276 36 [some (.ref 256), some (.int (J x1)), some (.int (J (x2 + 1))), some (.int (J (x4 - 1))), some (.int (J (x4 + (-1))))] [] h Q) ∧ (aI h 275 x4 = 0 → Ex X PG (d + 1) 276 36 [some (.ref 256), some (.int (J x1)), some (.int (J x2)), some (.int (J x3)), some (.int (J (x4 + (-1))))] [] h Q))))) :
    Ex X PG (d + 1) 276 36 [some (.ref 256), some (.int (J x1)), some (.int (J x2)), some (.int (J x3)), some (.int (J x4))] [] h Q := by
  refine wpx_ok (cut := [36]) 14 d 276 36 _ _ _ _ ?_
  show (((J x4) < (J 0) → ((¬ (J x1) = (J 0) → Q (some (.int (J x3))) h) ∧ (¬ (¬ (J x1) = (J 0)) → Q (some (.int (J x2))) h))) ∧ (¬ ((J x4) < (J 0)) → hs h 256 = (0, 11) ∧ ∃ q7, hR h 256 37 = some q7 ∧ ((hs h q7).1 = 3 ∨ (hs h q7).1 = 4) ∧ ix (J x4) (hs h q7).2 ∧ ((¬ (hI h q7 (Int32.toNatClampNeg (J x4))) = (J 0) → Ex X PG (d + 1) 276 36 [some (.ref 256), some (.int (J x1)), some (.int ((J x2) + (J 1))), some (.int ((J x4) - (J 1))), some (.int ((J x4) + (J (-1))))] [] h Q) ∧ (¬ (¬ (hI h q7 (Int32.toNatClampNeg (J x4))) = (J 0)) → Ex X PG (d + 1) 276 36 [some (.ref 256), some (.int (J x1)), some (.int (J x2)), some (.int (J x3)), some (.int ((J x4) + (J (-1))))] [] h Q))))
  try simp only [aI_wAL, fI_wAL, aL_wA, aL_wF, aI_wA_ne, aI_wF_ne, fI_wA_ne, fI_wF_ne, fI_wF_nk, aL_wAL_ne, J_sameA, J_sameF, aL_same, Nat.add_left_cancel_iff, Nat.add_eq_left, Nat.left_eq_add, not_false_eq_true, Nat.reduceEqDiff, Nat.reduceAdd, J_add, J_sub, J_mul, J_neg, J_and, J_or, J_xor, J_shl, J_shr, J_div, J_i2b, J_i2l, J_l2i, J_lcm, J_max, J_min, J_nab, J_nao, rdA, rdF, rdL, wA_fold, wF_fold, wL_fold, wC_fold]
  obtain ⟨k3, w⟩ := w
  refine ⟨fun c1 => ?_, fun c1 => ?_⟩
  · have t2 : x4 < 0 := ((Jlt k3 (by decide)).mp c1)
    replace w := w.1 t2
    obtain ⟨k6, w⟩ := w
    refine ⟨fun c4 => ?_, fun c4 => ?_⟩
    · have t5 : ¬ x1 = 0 := (fun e => c4 ((Jeq k6 (by decide)).mpr e))
      replace w := w.1 t5
      exact w
    · have t5 : x1 = 0 := ((Jeq k6 (by decide)).mp (Classical.byContradiction c4))
      replace w := w.2 t5
      exact w
  · have t2 : ¬ x4 < 0 := (fun e => c1 ((Jlt k3 (by decide)).mpr e))
    replace w := w.2 t2
    refine ⟨(ls256 C_h), _, (lr256_37 C_h), ?_⟩
    obtain ⟨k8, w⟩ := w
    refine ⟨Or.inr (congrArg Prod.fst (ls275 C_h)), ixs (ls275 C_h) k8 (by decide), ?_⟩
    refine ⟨fun c9 => ?_, fun c9 => ?_⟩
    · have t10 : ¬ aI h 275 x4 = 0 := (fun e => c9 ((Jeq (rg_toInt _) (by decide)).mpr e))
      replace w := w.1 t10
      exact w
    · have t10 : aI h 275 x4 = 0 := ((Jeq (rg_toInt _) (by decide)).mp (Classical.byContradiction c9))
      replace w := w.2 t10
      exact w
theorem m276 {X : Cst} {d : Nat} {w N f r : Int} {Rs : Int → Ru} {h : AH} {Q : Post} (C : Lay h) (hd : 13 ≤ d) (W : WF N (aI h 266)) (ef : fI h 256 21 = f) (er : fI h 256 2 = r) (hr : 0 ≤ r ∧ r ≤ 6) (RO : ∀ g, -1 ≤ g → g < r → RefOK h g Rs) (g1 : -2147483648 ≤ w ∧ w < 2147483648)
    (k : ∀ h', Fr TRf h h' → fI h' 256 21 = f → aI h' 266 = aI h 266 → Q (some (.int (J (anRuled Rs (aI h 266) r w)))) h') : Ex X PG d 276 0 [some (.ref 256), some (.int (J w)), none, none, none] [] h Q := by
  obtain ⟨d, rfl⟩ : ∃ e, d = e + 1 := ⟨d - 1, by omega⟩
  unfold anRuled at k
  refine r276_0 C (by omega) ⟨fun c => ?_, fun c => ⟨g1, fun c2 => ?_, fun c2 => ?_⟩⟩
  · rw [if_neg (fun z => c z.1)] at k; exact k h Fr.rf ef rfl
  · rw [if_pos ⟨c, c2⟩] at k
    refine m277 (n := 0) C (by omega) W ef er hr RO (by decide) (fun h13 F13 f13 e13 a13 => ⟨rfl, F13.1, ?_⟩)
    rw [F13.f 256 2 (fun z => by unfold TRf TRs TR at z; omega), er]
    have kk := k h13 F13 f13 e13
    have lp : ∀ (z j : Nat) (t : Int × Int), r + 1 = z + j → t = rf (fun g => fit g Rs (aI h 266)) r j → Ex X PG (d + 1) 276 36 [some (.ref 256), some (.int (J w)), some (.int (J t.1)), some (.int (J t.2)), some (.int (J ((z : Int) - 1)))] [] h13 Q := by
      intro z
      induction z with
      | zero =>
        intro j t e1 e2
        refine r276_36 (F13.C C) ⟨by omega, fun _ => ⟨g1, fun c3 => ?_, fun c3 => ?_⟩, fun y => absurd (by omega) y⟩
        all_goals rw [show (r + 1).toNat = j by omega, ← e2] at kk
        · rw [if_neg c3] at kk; exact kk
        · rw [if_pos c3] at kk; exact kk
      | succ z ih =>
        intro j t e1 e2
        have bb := rf_b (fun g => fit g Rs (aI h 266)) r j
        rw [← e2] at bb
        have un : rf (fun g => fit g Rs (aI h 266)) r (j + 1) = pI (fit (r - 1 - j) Rs (aI h 266)) ((rf (fun g => fit g Rs (aI h 266)) r j).1 + 1, r - 1 - (j : Int)) (rf (fun g => fit g Rs (aI h 266)) r j) := rfl
        rw [← e2] at un
        refine r276_36 (F13.C C) ⟨by omega, fun y => absurd y (by omega), fun _ => ⟨by omega, ?_⟩⟩
        rw [show ((z + 1 : Nat) : Int) - 1 = z by omega, show (z : Int) + (-1) = (z : Int) - 1 by omega]
        have az := (a13 z (by omega) (by omega)).1
        rw [show (z : Int) - 1 = r - 1 - j by omega] at az
        refine ⟨fun c3 => ?_, fun c3 => ?_⟩
        · have hp : fit (r - 1 - j) Rs (aI h 266) := by
            apply Classical.byContradiction
            intro y
            rw [az, bI_neg y] at c3; omega
          rw [pI_pos hp] at un
          have := ih (j + 1) (t.1 + 1, r - 1 - (j : Int)) (by omega) un.symm
          rw [show r - 1 - (j : Int) = (z : Int) - 1 by omega] at this
          exact this
        · have hp : ¬ fit (r - 1 - j) Rs (aI h 266) := fun y => by rw [az, bI_pos y] at c3; omega
          rw [pI_neg hp] at un
          exact ih (j + 1) t (by omega) un.symm
    have := lp (r + 1).toNat 0 (0, -2) (by omega) rfl
    rw [show (((r + 1).toNat : Nat) : Int) - 1 = r by omega] at this
    exact this
  · rw [if_neg (fun z => c2 z.2)] at k; exact k h Fr.rf ef rfl
/-- by how many rules p is then at x -/
noncomputable def alN (P : Int → Prop) (T : Int → Int → Int) (p x : Int) (j : Nat) : Int := sumN j (fun k => bI (P (k - 1) ∧ T (k - 1) p = x))
def mxN (g : Int → Int) : Nat → Int
  | 0 => 0
  | n + 1 => if g n ≤ mxN g n then mxN g n else g n
theorem mxN_b {g : Int → Int} {M : Int} (hM : 0 ≤ M) : ∀ n : Nat, (∀ k : Int, 0 ≤ k → k < n → g k ≤ M) → 0 ≤ mxN g n ∧ mxN g n ≤ M := by
  intro n
  induction n with
  | zero => intro _; exact ⟨Int.le_refl 0, hM⟩
  | succ n ih =>
    intro H
    have i := ih (fun k k0 k1 => H k k0 (by omega))
    have := H n (by omega) (by omega)
    unfold mxN
    split <;> omega
noncomputable def mst (P : Int → Prop) (T : Int → Int → Int) (r s p : Int) : Int := mxN (fun x => alN P T p x (r + 1).toNat) s.toNat
theorem alN_b (P : Int → Prop) (T : Int → Int → Int) (p x : Int) (j : Nat) : 0 ≤ alN P T p x j ∧ alN P T p x j ≤ j := sumN_bI_b _ j
theorem mst_b (P : Int → Prop) (T : Int → Int → Int) {r : Int} (s p : Int) (hr : 0 ≤ r ∧ r ≤ 6) : 0 ≤ mst P T r s p ∧ mst P T r s p ≤ 7 := by
  refine mxN_b (by decide) _ (fun k _ _ => ?_)
  have := alN_b P T p k (r + 1).toNat
  omega
-- OutwardDoorsModel.alikeOf(I)I at 0
set_option maxRecDepth 20000 in
set_option maxHeartbeats 4000000 in
theorem r281_0 {X : Cst} {d : Nat} {x1 : Int} {h : AH} {Q : Post} (C_h : Lay h)
  (w : Ex X PG (d + 1) 281 4 [some (.ref 256), some (.int (J x1)), some (.int (J 0)), some (.int (J 0)), none, none] [] h Q) :
    Ex X PG (d + 1) 281 0 [some (.ref 256), some (.int (J x1)), none, none, none, none] [] h Q := by
  refine wpx_ok (cut := [4, 20]) 4 d 281 0 _ _ _ _ ?_
  show Ex X PG (d + 1) 281 4 [some (.ref 256), some (.int (J x1)), some (.int (J 0)), some (.int (J 0)), none, none] [] h Q
  try simp only [aI_wAL, fI_wAL, aL_wA, aL_wF, aI_wA_ne, aI_wF_ne, fI_wA_ne, fI_wF_ne, fI_wF_nk, aL_wAL_ne, J_sameA, J_sameF, aL_same, Nat.add_left_cancel_iff, Nat.add_eq_left, Nat.left_eq_add, not_false_eq_true, Nat.reduceEqDiff, Nat.reduceAdd, J_add, J_sub, J_mul, J_neg, J_and, J_or, J_xor, J_shl, J_shr, J_div, J_i2b, J_i2l, J_l2i, J_lcm, J_max, J_min, J_nab, J_nao, rdA, rdF, rdL, wA_fold, wF_fold, wL_fold, wC_fold]
  exact w
-- OutwardDoorsModel.alikeOf(I)I at 4
set_option maxRecDepth 20000 in
set_option maxHeartbeats 4000000 in
theorem r281_4 {X : Cst} {d : Nat} {x1 : Int} {x2 : Int} {x3 : Int} {l4 : Option Value} {l5 : Option Value} {h : AH} {Q : Post} (C_h : Lay h)
  (w : (-2147483648 ≤ x3 ∧ x3 < 2147483648) ∧ ((aI h 266 0 ≤ x3 → Q (some (.int (J x2))) h) ∧ (¬ aI h 266 0 ≤ x3 → Ex X PG (d + 1) 281 20 [some (.ref 256), some (.int (J x1)), some (.int (J x2)), some (.int (J x3)), some (.int (J 0)), some (.int (J 0))] [] h Q))) :
    Ex X PG (d + 1) 281 4 [some (.ref 256), some (.int (J x1)), some (.int (J x2)), some (.int (J x3)), l4, l5] [] h Q := by
  refine wpx_ok (cut := [4, 20]) 10 d 281 4 _ _ _ _ ?_
  show hs h 256 = (0, 11) ∧ ∃ q1, hR h 256 20 = some q1 ∧ (hs h q1).1 = 1 ∧ ix (J 0) (hs h q1).2 ∧ (((hI h q1 (Int32.toNatClampNeg (J 0))) ≤ (J x3) → Q (some (.int (J x2))) h) ∧ (¬ ((hI h q1 (Int32.toNatClampNeg (J 0))) ≤ (J x3)) → Ex X PG (d + 1) 281 20 [some (.ref 256), some (.int (J x1)), some (.int (J x2)), some (.int (J x3)), some (.int (J 0)), some (.int (J 0))] [] h Q))
  try simp only [aI_wAL, fI_wAL, aL_wA, aL_wF, aI_wA_ne, aI_wF_ne, fI_wA_ne, fI_wF_ne, fI_wF_nk, aL_wAL_ne, J_sameA, J_sameF, aL_same, Nat.add_left_cancel_iff, Nat.add_eq_left, Nat.left_eq_add, not_false_eq_true, Nat.reduceEqDiff, Nat.reduceAdd, J_add, J_sub, J_mul, J_neg, J_and, J_or, J_xor, J_shl, J_shr, J_div, J_i2b, J_i2l, J_l2i, J_lcm, J_max, J_min, J_nab, J_nao, rdA, rdF, rdL, wA_fold, wF_fold, wL_fold, wC_fold]
  refine ⟨(ls256 C_h), _, (lr256_20 C_h), ?_⟩
  refine ⟨congrArg Prod.fst (ls266 C_h), ixs (ls266 C_h) (by decide) (by decide), ?_⟩
  obtain ⟨k4, w⟩ := w
  refine ⟨fun c2 => ?_, fun c2 => ?_⟩
  · have t3 : aI h 266 0 ≤ x3 := ((Jle (rg_toInt _) k4).mp c2)
    replace w := w.1 t3
    exact w
  · have t3 : ¬ aI h 266 0 ≤ x3 := (fun e => c2 ((Jle (rg_toInt _) k4).mpr e))
    replace w := w.2 t3
    exact w
-- OutwardDoorsModel.alikeOf(I)I at 20
set_option maxRecDepth 20000 in
set_option maxHeartbeats 4000000 in
theorem r281_20 {X : Cst} {d : Nat} {x1 : Int} {x2 : Int} {x3 : Int} {x4 : Int} {x5 : Int} {h : AH} {Q : Post} (C_h : Lay h)
  (w : (-2147483648 ≤ x5 ∧ x5 < 2147483648) ∧ ((fI h 256 2 < x5 → (-2147483648 ≤ x4 ∧ x4 < 2147483648) ∧ (-2147483648 ≤ x2 ∧ x2 < 2147483648) ∧ ((x4 ≤ x2 → Ex X PG (d + 1) 281 4 [some (.ref 256), some (.int (J x1)), some (.int (J x2)), some (.int (J (x3 + 1))), some (.int (J x4)), some (.int (J x5))] [] h Q) ∧ (¬ x4 ≤ x2 → Ex X PG (d + 1) 281 4 [some (.ref 256), some (.int (J x1)), some (.int (J x4)), some (.int (J (x3 + 1))), some (.int (J x4)), some (.int (J x5))] [] h Q))) ∧ (¬ fI h 256 2 < x5 → (0 ≤ x5 ∧ x5 < 7) ∧ ((aI h 275 x5 = 0 → Ex X PG (d + 1) 281 20 [some (.ref 256), some (.int (J x1)), some (.int (J x2)), some (.int (J x3)), some (.int (J (x4 + 0))), some (.int (J (x5 + 1)))] [] h Q) ∧ (¬ aI h 275 x5 = 0 → (0 ≤ (4 * x5) + x1 ∧ (4 * x5) + x1 < 28) ∧ (-2147483648 ≤ x3 ∧ x3 < 2147483648) ∧ ((¬ aI h 276 ((4 * x5) + x1) = x3 → Ex X PG (d + 1) 281 20 [some (.ref 256), some (.int (J x1)), some (.int (J x2)), some (.int (J x3)), some (.int (J (x4 + 0))), some (.int (J (x5 + 1)))] [] h Q) ∧ (aI h 276 ((4 * x5) + x1) = x3 → Ex X PG (d + 1) 281 20 [some (.ref 256), some (.int (J x1)), some (.int (J x2)), some (.int (J x3)), some (.int (J (x4 + 1))), some (.int (J (x5 + 1)))] [] h Q))))))) :
    Ex X PG (d + 1) 281 20 [some (.ref 256), some (.int (J x1)), some (.int (J x2)), some (.int (J x3)), some (.int (J x4)), some (.int (J x5))] [] h Q := by
  refine wpx_ok (cut := [4, 20]) 26 d 281 20 _ _ _ _ ?_
  show hs h 256 = (0, 11) ∧ (((hF h 256 2) < (J x5) → (((J x4) ≤ (J x2) → Ex X PG (d + 1) 281 4 [some (.ref 256), some (.int (J x1)), some (.int (J x2)), some (.int ((J x3) + (J 1))), some (.int (J x4)), some (.int (J x5))] [] h Q) ∧ (¬ ((J x4) ≤ (J x2)) → Ex X PG (d + 1) 281 4 [some (.ref 256), some (.int (J x1)), some (.int (J x4)), some (.int ((J x3) + (J 1))), some (.int (J x4)), some (.int (J x5))] [] h Q))) ∧ (¬ ((hF h 256 2) < (J x5)) → hs h 256 = (0, 11) ∧ ∃ q8, hR h 256 37 = some q8 ∧ ((hs h q8).1 = 3 ∨ (hs h q8).1 = 4) ∧ ix (J x5) (hs h q8).2 ∧ (((hI h q8 (Int32.toNatClampNeg (J x5))) = (J 0) → Ex X PG (d + 1) 281 20 [some (.ref 256), some (.int (J x1)), some (.int (J x2)), some (.int (J x3)), some (.int ((J x4) + (J 0))), some (.int ((J x5) + (J 1)))] [] h Q) ∧ (¬ ((hI h q8 (Int32.toNatClampNeg (J x5))) = (J 0)) → hs h 256 = (0, 11) ∧ ∃ q12, hR h 256 38 = some q12 ∧ (hs h q12).1 = 1 ∧ ix (((J 4) * (J x5)) + (J x1)) (hs h q12).2 ∧ ((¬ (hI h q12 (Int32.toNatClampNeg (((J 4) * (J x5)) + (J x1)))) = (J x3) → Ex X PG (d + 1) 281 20 [some (.ref 256), some (.int (J x1)), some (.int (J x2)), some (.int (J x3)), some (.int ((J x4) + (J 0))), some (.int ((J x5) + (J 1)))] [] h Q) ∧ (¬ (¬ (hI h q12 (Int32.toNatClampNeg (((J 4) * (J x5)) + (J x1)))) = (J x3)) → Ex X PG (d + 1) 281 20 [some (.ref 256), some (.int (J x1)), some (.int (J x2)), some (.int (J x3)), some (.int ((J x4) + (J 1))), some (.int ((J x5) + (J 1)))] [] h Q))))))
  try simp only [aI_wAL, fI_wAL, aL_wA, aL_wF, aI_wA_ne, aI_wF_ne, fI_wA_ne, fI_wF_ne, fI_wF_nk, aL_wAL_ne, J_sameA, J_sameF, aL_same, Nat.add_left_cancel_iff, Nat.add_eq_left, Nat.left_eq_add, not_false_eq_true, Nat.reduceEqDiff, Nat.reduceAdd, J_add, J_sub, J_mul, J_neg, J_and, J_or, J_xor, J_shl, J_shr, J_div, J_i2b, J_i2l, J_l2i, J_lcm, J_max, J_min, J_nab, J_nao, rdA, rdF, rdL, wA_fold, wF_fold, wL_fold, wC_fold]
  refine ⟨(ls256 C_h), ?_⟩
  obtain ⟨k3, w⟩ := w
  refine ⟨fun c1 => ?_, fun c1 => ?_⟩
  · have t2 : fI h 256 2 < x5 := ((Jlt (rg_toInt _) k3).mp c1)
    replace w := w.1 t2
    obtain ⟨k6, w⟩ := w
    obtain ⟨k7, w⟩ := w
    refine ⟨fun c4 => ?_, fun c4 => ?_⟩
    · have t5 : x4 ≤ x2 := ((Jle k6 k7).mp c4)
      replace w := w.1 t5
      exact w
    · have t5 : ¬ x4 ≤ x2 := (fun e => c4 ((Jle k6 k7).mpr e))
      replace w := w.2 t5
      exact w
  · have t2 : ¬ fI h 256 2 < x5 := (fun e => c1 ((Jlt (rg_toInt _) k3).mpr e))
    replace w := w.2 t2
    refine ⟨(ls256 C_h), _, (lr256_37 C_h), ?_⟩
    obtain ⟨k9, w⟩ := w
    refine ⟨Or.inr (congrArg Prod.fst (ls275 C_h)), ixs (ls275 C_h) k9 (by decide), ?_⟩
    refine ⟨fun c10 => ?_, fun c10 => ?_⟩
    · have t11 : aI h 275 x5 = 0 := ((Jeq (rg_toInt _) (by decide)).mp c10)
      replace w := w.1 t11
      exact w
    · have t11 : ¬ aI h 275 x5 = 0 := (fun e => c10 ((Jeq (rg_toInt _) (by decide)).mpr e))
      replace w := w.2 t11
      refine ⟨(ls256 C_h), _, (lr256_38 C_h), ?_⟩
      obtain ⟨k13, w⟩ := w
      refine ⟨congrArg Prod.fst (ls276 C_h), ixs (ls276 C_h) k13 (by decide), ?_⟩
      obtain ⟨k16, w⟩ := w
      refine ⟨fun c14 => ?_, fun c14 => ?_⟩
      · have t15 : ¬ aI h 276 ((4 * x5) + x1) = x3 := (fun e => c14 ((Jeq (rg_toInt _) k16).mpr e))
        replace w := w.1 t15
        exact w
      · have t15 : aI h 276 ((4 * x5) + x1) = x3 := ((Jeq (rg_toInt _) k16).mp (Classical.byContradiction c14))
        replace w := w.2 t15
        exact w
theorem m281 {X : Cst} {d : Nat} {p r : Int} {P : Int → Prop} {T : Int → Int → Int} {h : AH} {Q : Post} (C : Lay h) (hd : 1 ≤ d) (er : fI h 256 2 = r) (hr : 0 ≤ r ∧ r ≤ 6) (hs0 : 0 ≤ aI h 266 0 ∧ aI h 266 0 ≤ 8) (hp : 0 ≤ p ∧ p < 4)
    (A : ∀ j, 0 ≤ j → j ≤ r → aI h 275 j = bI (P (j - 1)) ∧ aI h 276 (4 * j + p) = T (j - 1) p)
    (k : Q (some (.int (J (mst P T r (aI h 266 0) p)))) h) : Ex X PG d 281 0 [some (.ref 256), some (.int (J p)), none, none, none, none] [] h Q := by
  obtain ⟨d, rfl⟩ : ∃ e, d = e + 1 := ⟨d - 1, by omega⟩
  have lo : ∀ (z x : Nat) (l4 l5 : Option Value), aI h 266 0 = z + x → Ex X PG (d + 1) 281 4 [some (.ref 256), some (.int (J p)), some (.int (J (mxN (fun x => alN P T p x (r + 1).toNat) x))), some (.int (J (x : Int))), l4, l5] [] h Q := by
    intro z
    induction z with
    | zero =>
      intro x l4 l5 e
      refine r281_4 C ⟨by omega, fun _ => ?_, fun y => absurd (by omega) y⟩
      unfold mst at k
      rw [show (aI h 266 0).toNat = x by omega] at k
      exact k
    | succ z ih =>
      intro x l4 l5 e
      refine r281_4 C ⟨by omega, fun y => absurd y (by omega), fun _ => ?_⟩
      have mb := mxN_b (M := 7) (by decide) x (g := fun x => alN P T p x (r + 1).toNat) (fun k _ _ => by have := alN_b P T p k (r + 1).toNat; omega)
      have li : ∀ (y j : Nat), r + 1 = y + j → Ex X PG (d + 1) 281 20 [some (.ref 256), some (.int (J p)), some (.int (J (mxN (fun x => alN P T p x (r + 1).toNat) x))), some (.int (J (x : Int))), some (.int (J (alN P T p x j))), some (.int (J (j : Int)))] [] h Q := by
        intro y
        induction y with
        | zero =>
          intro j e2
          have ab := alN_b P T p x j
          refine r281_20 C ?_
          rw [er]
          have un : mxN (fun x => alN P T p x (r + 1).toNat) (x + 1) = if alN P T p x (r + 1).toNat ≤ mxN (fun x => alN P T p x (r + 1).toNat) x then mxN (fun x => alN P T p x (r + 1).toNat) x else alN P T p x (r + 1).toNat := rfl
          have ej : (r + 1).toNat = j := by omega
          refine ⟨by omega, fun _ => ⟨by omega, by omega, fun c => ?_, fun c => ?_⟩, fun y => absurd (by omega) y⟩
          · have := ih (x + 1) (some (.int (J (alN P T p x j)))) (some (.int (J (j : Int)))) (by omega)
            rw [un, if_pos (by rw [ej] at c ⊢; exact c)] at this
            exact this
          · have := ih (x + 1) (some (.int (J (alN P T p x j)))) (some (.int (J (j : Int)))) (by omega)
            rw [un, if_neg (by rw [ej] at c ⊢; exact c), ej] at this
            exact this
        | succ y ih2 =>
          intro j e2
          have ab := alN_b P T p x j
          have aj := A j (by omega) (by omega)
          have un : alN P T p x (j + 1) = alN P T p x j + bI (P ((j : Int) - 1) ∧ T ((j : Int) - 1) p = x) := rfl
          refine r281_20 C ?_
          rw [er, aj.1, aj.2]
          have i2 := ih2 (j + 1) (by omega)
          rw [un] at i2
          refine ⟨by omega, fun y => absurd y (by omega), fun _ => ⟨by omega, fun c => ?_, fun c => ⟨by omega, by omega, fun c2 => ?_, fun c2 => ?_⟩⟩⟩
          · rw [bI_neg (fun z => by rw [bI_pos z.1] at c; omega)] at i2; exact i2
          · rw [bI_neg (fun z => c2 z.2)] at i2; exact i2
          · rw [bI_pos ⟨by
              apply Classical.byContradiction
              intro z
              rw [bI_neg z] at c; omega, c2⟩] at i2
            exact i2
      exact li (r + 1).toNat 0 (by omega)
  refine r281_0 C ?_
  exact lo (aI h 266 0).toNat 0 none none (by omega)
/-- LOOK: whom, over the first n people -/
def lkF (g : Int → Int) : Nat → Int × Int
  | 0 => (-2, -2)
  | p + 1 => if g p = 0 then lkF g p else if (lkF g p).1 < 0 then ((p : Int), g p) else if g p < (lkF g p).2 then ((p : Int), g p) else lkF g p
theorem lkF_b {g : Int → Int} (hg : ∀ p, 0 ≤ g p ∧ g p ≤ 7) : ∀ n : Nat, -2 ≤ (lkF g n).1 ∧ (lkF g n).1 ≤ n ∧ -2 ≤ (lkF g n).2 ∧ (lkF g n).2 ≤ 7 := by
  intro n
  induction n with
  | zero => show (-2 : Int) ≤ -2 ∧ (-2 : Int) ≤ ((0 : Nat) : Int) ∧ (-2 : Int) ≤ -2 ∧ (-2 : Int) ≤ 7; omega
  | succ n ih =>
    have := hg n
    unfold lkF
    split
    · omega
    · split
      · show -2 ≤ (n : Int) ∧ (n : Int) ≤ _ ∧ -2 ≤ g n ∧ g n ≤ 7; omega
      · split
        · show -2 ≤ (n : Int) ∧ (n : Int) ≤ _ ∧ -2 ≤ g n ∧ g n ≤ 7; omega
        · omega
noncomputable def lkT (Rs : Int → Ru) (S : Int → Int) (n : Int) (g p : Int) : Int := pS (momI g Rs n.toNat (begS S)) p 0
noncomputable def anLook (Rs : Int → Ru) (S : Int → Int) (r n w : Int) : Int := if 0 < S 0 ∧ (0 ≤ n ∧ n ≤ 60) ∧ (0 ≤ w ∧ w ≤ 1) then (if w = 0 then (lkF (mst (fun g => fit g Rs S) (lkT Rs S n) r (S 0)) (S 2).toNat).1 else (lkF (mst (fun g => fit g Rs S) (lkT Rs S n) r (S 0)) (S 2).toNat).2) else -1
-- OutwardDoorsModel.look(II)I at 0
set_option maxRecDepth 20000 in
set_option maxHeartbeats 4000000 in
theorem r280_0 {X : Cst} {d : Nat} {x1 : Int} {x2 : Int} {h : AH} {Q : Post} (C_h : Lay h) (hd : 1 ≤ d)
  (w : ((¬ (0 < aI h 266 0) → Q (some (.int (J (-1)))) h) ∧ ((0 < aI h 266 0) → (-2147483648 ≤ x1 ∧ x1 < 2147483648) ∧ ((¬ (0 ≤ x1 ∧ x1 ≤ 60) → Q (some (.int (J (-1)))) h) ∧ ((0 ≤ x1 ∧ x1 ≤ 60) → (-2147483648 ≤ x2 ∧ x2 < 2147483648) ∧ (((0 ≤ x2 ∧ x2 ≤ 1) → Ex X PG d 277 0 [some (.ref 256), some (.int (J x1)), none, none, none, none] [] h (fun v18 h19 => v18 = none ∧ SH h h19 ∧ Ex X PG (d + 1) 280 46 [some (.ref 256), some (.int (J x1)), some (.int (J x2)), some (.int (J (-2))), some (.int (J (-2))), some (.int (J 0)), none] [] h19 Q)) ∧ (¬ (0 ≤ x2 ∧ x2 ≤ 1) → Q (some (.int (J (-1)))) h))))))) :
    Ex X PG (d + 1) 280 0 [some (.ref 256), some (.int (J x1)), some (.int (J x2)), none, none, none, none] [] h Q := by
  refine wpx_ok (cut := [46]) 24 d 280 0 _ _ _ _ ?_
  show hs h 256 = (0, 11) ∧ Ex X PG d 231 0 [some (.ref 256)] [] h (fun v1 h2 => ∃ r3, v1 = some (.int r3) ∧ ((r3 = (J 0) → Q (some (.int (J (-1)))) h2) ∧ (¬ (r3 = (J 0)) → Ex X PG d 186 0 [some (.long (Int32.toInt64 (J x1))), none, some (.long (0 : Int64)), none, some (.long (60 : Int64)), none] [] h2 (fun v6 h7 => ∃ r8, v6 = some (.int r8) ∧ ((r8 = (J 0) → Q (some (.int (J (-1)))) h7) ∧ (¬ (r8 = (J 0)) → Ex X PG d 186 0 [some (.long (Int32.toInt64 (J x2))), none, some (.long (0 : Int64)), none, some (.long (1 : Int64)), none] [] h7 (fun v12 h13 => ∃ r14, v12 = some (.int r14) ∧ ((¬ r14 = (J 0) → hs h13 256 = (0, 11) ∧ Ex X PG d 277 0 [some (.ref 256), some (.int (J x1)), none, none, none, none] [] h13 (fun v18 h19 => v18 = none ∧ Ex X PG (d + 1) 280 46 [some (.ref 256), some (.int (J x1)), some (.int (J x2)), some (.int (J (-2))), some (.int (J (-2))), some (.int (J 0)), none] [] h19 Q)) ∧ (¬ (¬ r14 = (J 0)) → Q (some (.int (J (-1)))) h13)))))))))
  try simp only [aI_wAL, fI_wAL, aL_wA, aL_wF, aI_wA_ne, aI_wF_ne, fI_wA_ne, fI_wF_ne, fI_wF_nk, aL_wAL_ne, J_sameA, J_sameF, aL_same, Nat.add_left_cancel_iff, Nat.add_eq_left, Nat.left_eq_add, not_false_eq_true, Nat.reduceEqDiff, Nat.reduceAdd, J_add, J_sub, J_mul, J_neg, J_and, J_or, J_xor, J_shl, J_shr, J_div, J_i2b, J_i2l, J_l2i, J_lcm, J_max, J_min, J_nab, J_nao, rdA, rdF, rdL, wA_fold, wF_fold, wL_fold, wC_fold]
  refine ⟨(ls256 C_h), ?_⟩
  refine m231 (h := h)  C_h (by omega)  ?_
  refine ⟨_, rfl, ?_⟩
  try simp only [aI_wAL, fI_wAL, aL_wA, aL_wF, aI_wA_ne, aI_wF_ne, fI_wA_ne, fI_wF_ne, fI_wF_nk, aL_wAL_ne, J_sameA, J_sameF, aL_same, Nat.add_left_cancel_iff, Nat.add_eq_left, Nat.left_eq_add, not_false_eq_true, Nat.reduceEqDiff, Nat.reduceAdd, J_add, J_sub, J_mul, J_neg, J_and, J_or, J_xor, J_shl, J_shr, J_div, J_i2b, J_i2l, J_l2i, J_lcm, J_max, J_min, J_nab, J_nao, rdA, rdF, rdL, wA_fold, wF_fold, wL_fold, wC_fold]
  refine ⟨fun c4 => ?_, fun c4 => ?_⟩
  · have t5 : ¬ (0 < aI h 266 0) := ((bI0 _).mp c4)
    replace w := w.1 t5
    exact w
  · have t5 : (0 < aI h 266 0) := (Classical.byContradiction fun n => c4 ((bI0 _).mpr n))
    replace w := w.2 t5
    obtain ⟨k9, w⟩ := w
    refine m186 (h := h) (v := x1) (lo := 0) (hi := 60) C_h (by omega) k9 (by decide) (by decide) ?_
    refine ⟨_, rfl, ?_⟩
    try simp only [aI_wAL, fI_wAL, aL_wA, aL_wF, aI_wA_ne, aI_wF_ne, fI_wA_ne, fI_wF_ne, fI_wF_nk, aL_wAL_ne, J_sameA, J_sameF, aL_same, Nat.add_left_cancel_iff, Nat.add_eq_left, Nat.left_eq_add, not_false_eq_true, Nat.reduceEqDiff, Nat.reduceAdd, J_add, J_sub, J_mul, J_neg, J_and, J_or, J_xor, J_shl, J_shr, J_div, J_i2b, J_i2l, J_l2i, J_lcm, J_max, J_min, J_nab, J_nao, rdA, rdF, rdL, wA_fold, wF_fold, wL_fold, wC_fold]
    refine ⟨fun c10 => ?_, fun c10 => ?_⟩
    · have t11 : ¬ (0 ≤ x1 ∧ x1 ≤ 60) := ((bI0 _).mp c10)
      replace w := w.1 t11
      exact w
    · have t11 : (0 ≤ x1 ∧ x1 ≤ 60) := (Classical.byContradiction fun n => c10 ((bI0 _).mpr n))
      replace w := w.2 t11
      obtain ⟨k15, w⟩ := w
      refine m186 (h := h) (v := x2) (lo := 0) (hi := 1) C_h (by omega) k15 (by decide) (by decide) ?_
      refine ⟨_, rfl, ?_⟩
      try simp only [aI_wAL, fI_wAL, aL_wA, aL_wF, aI_wA_ne, aI_wF_ne, fI_wA_ne, fI_wF_ne, fI_wF_nk, aL_wAL_ne, J_sameA, J_sameF, aL_same, Nat.add_left_cancel_iff, Nat.add_eq_left, Nat.left_eq_add, not_false_eq_true, Nat.reduceEqDiff, Nat.reduceAdd, J_add, J_sub, J_mul, J_neg, J_and, J_or, J_xor, J_shl, J_shr, J_div, J_i2b, J_i2l, J_l2i, J_lcm, J_max, J_min, J_nab, J_nao, rdA, rdF, rdL, wA_fold, wF_fold, wL_fold, wC_fold]
      refine ⟨fun c16 => ?_, fun c16 => ?_⟩
      · have t17 : (0 ≤ x2 ∧ x2 ≤ 1) := (Classical.byContradiction fun n => c16 ((bI0 _).mpr n))
        replace w := w.1 t17
        refine ⟨(ls256 C_h), ?_⟩
        refine Ex.mono w (Nat.le_refl _) ?_
        rintro v18 h19 ⟨rfl, s20, w⟩
        refine ⟨rfl, ?_⟩
        have C_h19 := Lay_SH s20 C_h
        try simp only [aI_wAL, fI_wAL, aL_wA, aL_wF, aI_wA_ne, aI_wF_ne, fI_wA_ne, fI_wF_ne, fI_wF_nk, aL_wAL_ne, J_sameA, J_sameF, aL_same, Nat.add_left_cancel_iff, Nat.add_eq_left, Nat.left_eq_add, not_false_eq_true, Nat.reduceEqDiff, Nat.reduceAdd, J_add, J_sub, J_mul, J_neg, J_and, J_or, J_xor, J_shl, J_shr, J_div, J_i2b, J_i2l, J_l2i, J_lcm, J_max, J_min, J_nab, J_nao, rdA, rdF, rdL, wA_fold, wF_fold, wL_fold, wC_fold]
        exact w
      · have t17 : ¬ (0 ≤ x2 ∧ x2 ≤ 1) := ((bI0 _).mp (Classical.byContradiction fun n => c16 n))
        replace w := w.2 t17
        exact w
-- OutwardDoorsModel.look(II)I at 46
set_option maxRecDepth 20000 in
set_option maxHeartbeats 4000000 in
theorem r280_46 {X : Cst} {d : Nat} {x1 : Int} {x2 : Int} {x3 : Int} {x4 : Int} {x5 : Int} {l6 : Option Value} {h : AH} {Q : Post} (C_h : Lay h)
  (w : (-2147483648 ≤ x5 ∧ x5 < 2147483648) ∧ ((aI h 266 2 ≤ x5 → (-2147483648 ≤ x2 ∧ x2 < 2147483648) ∧ ((¬ x2 = 0 → Q (some (.int (J x4))) h) ∧ (x2 = 0 → Q (some (.int (J x3))) h))) ∧ (¬ aI h 266 2 ≤ x5 → Ex X PG d 281 0 [some (.ref 256), some (.int (J x5)), none, none, none, none] [] h (fun v8 h9 => ∃ r10 : Int, (-2147483648 ≤ r10 ∧ r10 < 2147483648) ∧ v8 = some (.int (J r10)) ∧ SH h h9 ∧ ((r10 = 0 → Ex X PG (d + 1) 280 46 [some (.ref 256), some (.int (J x1)), some (.int (J x2)), some (.int (J x3)), some (.int (J x4)), some (.int (J (x5 + 1))), some (.int (J r10))] [] h9 Q) ∧ (¬ r10 = 0 → (-2147483648 ≤ x3 ∧ x3 < 2147483648) ∧ ((x3 < 0 → Ex X PG (d + 1) 280 46 [some (.ref 256), some (.int (J x1)), some (.int (J x2)), some (.int (J x5)), some (.int (J r10)), some (.int (J (x5 + 1))), some (.int (J r10))] [] h9 Q) ∧ (¬ x3 < 0 → (-2147483648 ≤ x4 ∧ x4 < 2147483648) ∧ ((r10 < x4 → Ex X PG (d + 1) 280 46 [some (.ref 256), some (.int (J x1)), some (.int (J x2)), some (.int (J x5)), some (.int (J r10)), some (.int (J (x5 + 1))), some (.int (J r10))] [] h9 Q) ∧ (¬ r10 < x4 → Ex X PG (d + 1) 280 46 [some (.ref 256), some (.int (J x1)), some (.int (J x2)), some (.int (J x3)), some (.int (J x4)), some (.int (J (x5 + 1))), some (.int (J r10))] [] h9 Q)))))))))) :
    Ex X PG (d + 1) 280 46 [some (.ref 256), some (.int (J x1)), some (.int (J x2)), some (.int (J x3)), some (.int (J x4)), some (.int (J x5)), l6] [] h Q := by
  refine wpx_ok (cut := [46]) 23 d 280 46 _ _ _ _ ?_
  show hs h 256 = (0, 11) ∧ ∃ q1, hR h 256 20 = some q1 ∧ (hs h q1).1 = 1 ∧ ix (J 2) (hs h q1).2 ∧ (((hI h q1 (Int32.toNatClampNeg (J 2))) ≤ (J x5) → ((¬ (J x2) = (J 0) → Q (some (.int (J x4))) h) ∧ (¬ (¬ (J x2) = (J 0)) → Q (some (.int (J x3))) h))) ∧ (¬ ((hI h q1 (Int32.toNatClampNeg (J 2))) ≤ (J x5)) → hs h 256 = (0, 11) ∧ Ex X PG d 281 0 [some (.ref 256), some (.int (J x5)), none, none, none, none] [] h (fun v8 h9 => ∃ r10, v8 = some (.int r10) ∧ ((r10 = (J 0) → Ex X PG (d + 1) 280 46 [some (.ref 256), some (.int (J x1)), some (.int (J x2)), some (.int (J x3)), some (.int (J x4)), some (.int ((J x5) + (J 1))), some (.int r10)] [] h9 Q) ∧ (¬ (r10 = (J 0)) → (((J x3) < (J 0) → Ex X PG (d + 1) 280 46 [some (.ref 256), some (.int (J x1)), some (.int (J x2)), some (.int (J x5)), some (.int r10), some (.int ((J x5) + (J 1))), some (.int r10)] [] h9 Q) ∧ (¬ ((J x3) < (J 0)) → ((r10 < (J x4) → Ex X PG (d + 1) 280 46 [some (.ref 256), some (.int (J x1)), some (.int (J x2)), some (.int (J x5)), some (.int r10), some (.int ((J x5) + (J 1))), some (.int r10)] [] h9 Q) ∧ (¬ (r10 < (J x4)) → Ex X PG (d + 1) 280 46 [some (.ref 256), some (.int (J x1)), some (.int (J x2)), some (.int (J x3)), some (.int (J x4)), some (.int ((J x5) + (J 1))), some (.int r10)] [] h9 Q)))))))))
  try simp only [aI_wAL, fI_wAL, aL_wA, aL_wF, aI_wA_ne, aI_wF_ne, fI_wA_ne, fI_wF_ne, fI_wF_nk, aL_wAL_ne, J_sameA, J_sameF, aL_same, Nat.add_left_cancel_iff, Nat.add_eq_left, Nat.left_eq_add, not_false_eq_true, Nat.reduceEqDiff, Nat.reduceAdd, J_add, J_sub, J_mul, J_neg, J_and, J_or, J_xor, J_shl, J_shr, J_div, J_i2b, J_i2l, J_l2i, J_lcm, J_max, J_min, J_nab, J_nao, rdA, rdF, rdL, wA_fold, wF_fold, wL_fold, wC_fold]
  refine ⟨(ls256 C_h), _, (lr256_20 C_h), ?_⟩
  refine ⟨congrArg Prod.fst (ls266 C_h), ixs (ls266 C_h) (by decide) (by decide), ?_⟩
  obtain ⟨k4, w⟩ := w
  refine ⟨fun c2 => ?_, fun c2 => ?_⟩
  · have t3 : aI h 266 2 ≤ x5 := ((Jle (rg_toInt _) k4).mp c2)
    replace w := w.1 t3
    obtain ⟨k7, w⟩ := w
    refine ⟨fun c5 => ?_, fun c5 => ?_⟩
    · have t6 : ¬ x2 = 0 := (fun e => c5 ((Jeq k7 (by decide)).mpr e))
      replace w := w.1 t6
      exact w
    · have t6 : x2 = 0 := ((Jeq k7 (by decide)).mp (Classical.byContradiction c5))
      replace w := w.2 t6
      exact w
  · have t3 : ¬ aI h 266 2 ≤ x5 := (fun e => c2 ((Jle (rg_toInt _) k4).mpr e))
    replace w := w.2 t3
    refine ⟨(ls256 C_h), ?_⟩
    refine Ex.mono w (Nat.le_refl _) ?_
    rintro v8 h9 ⟨r10, gr10, rfl, s19, w⟩
    refine ⟨_, rfl, ?_⟩
    have C_h9 := Lay_SH s19 C_h
    try simp only [aI_wAL, fI_wAL, aL_wA, aL_wF, aI_wA_ne, aI_wF_ne, fI_wA_ne, fI_wF_ne, fI_wF_nk, aL_wAL_ne, J_sameA, J_sameF, aL_same, Nat.add_left_cancel_iff, Nat.add_eq_left, Nat.left_eq_add, not_false_eq_true, Nat.reduceEqDiff, Nat.reduceAdd, J_add, J_sub, J_mul, J_neg, J_and, J_or, J_xor, J_shl, J_shr, J_div, J_i2b, J_i2l, J_l2i, J_lcm, J_max, J_min, J_nab, J_nao, rdA, rdF, rdL, wA_fold, wF_fold, wL_fold, wC_fold]
    refine ⟨fun c11 => ?_, fun c11 => ?_⟩
    · have t12 : r10 = 0 := ((Jeq gr10 (by decide)).mp c11)
      replace w := w.1 t12
      exact w
    · have t12 : ¬ r10 = 0 := (fun e => c11 ((Jeq gr10 (by decide)).mpr e))
      replace w := w.2 t12
      obtain ⟨k15, w⟩ := w
      refine ⟨fun c13 => ?_, fun c13 => ?_⟩
      · have t14 : x3 < 0 := ((Jlt k15 (by decide)).mp c13)
        replace w := w.1 t14
        exact w
      · have t14 : ¬ x3 < 0 := (fun e => c13 ((Jlt k15 (by decide)).mpr e))
        replace w := w.2 t14
        obtain ⟨k18, w⟩ := w
        refine ⟨fun c16 => ?_, fun c16 => ?_⟩
        · have t17 : r10 < x4 := ((Jlt gr10 k18).mp c16)
          replace w := w.1 t17
          exact w
        · have t17 : ¬ r10 < x4 := (fun e => c16 ((Jlt gr10 k18).mpr e))
          replace w := w.2 t17
          exact w
theorem m280 {X : Cst} {d : Nat} {n w N f r : Int} {Rs : Int → Ru} {h : AH} {Q : Post} (C : Lay h) (hd : 13 ≤ d) (W : WF N (aI h 266)) (ef : fI h 256 21 = f) (er : fI h 256 2 = r) (hr : 0 ≤ r ∧ r ≤ 6) (RO : ∀ g, -1 ≤ g → g < r → RefOK h g Rs) (g1 : -2147483648 ≤ n ∧ n < 2147483648) (g2 : -2147483648 ≤ w ∧ w < 2147483648)
    (k : ∀ h', Fr TRf h h' → fI h' 256 21 = f → aI h' 266 = aI h 266 → Q (some (.int (J (anLook Rs (aI h 266) r n w)))) h') : Ex X PG d 280 0 [some (.ref 256), some (.int (J n)), some (.int (J w)), none, none, none, none] [] h Q := by
  obtain ⟨d, rfl⟩ : ∃ e, d = e + 1 := ⟨d - 1, by omega⟩
  have b := W.1
  unfold WFb at b
  unfold anLook at k
  refine r280_0 C (by omega) ⟨fun c => ?_, fun c => ⟨g1, fun c2 => ?_, fun c2 => ⟨g2, fun c3 => ?_, fun c3 => ?_⟩⟩⟩
  · rw [if_neg (fun z => c z.1)] at k; exact k h Fr.rf ef rfl
  · rw [if_neg (fun z => c2 z.2.1)] at k; exact k h Fr.rf ef rfl
  · rw [if_pos ⟨c, c2, c3⟩] at k
    refine m277 (n := n) C (by omega) W ef er hr RO c2 (fun h19 F19 f19 e19 a19 => ⟨rfl, F19.1, ?_⟩)
    have kk := k h19 F19 f19 e19
    have mb := fun p => mst_b (fun g => fit g Rs (aI h 266)) (lkT Rs (aI h 266) n) (aI h 266 0) p hr
    have lb := lkF_b mb
    have lp : ∀ (z p : Nat) (t : Int × Int) (l6 : Option Value), aI h 266 2 = z + p → t = lkF (mst (fun g => fit g Rs (aI h 266)) (lkT Rs (aI h 266) n) r (aI h 266 0)) p → Ex X PG (d + 1) 280 46 [some (.ref 256), some (.int (J n)), some (.int (J w)), some (.int (J t.1)), some (.int (J t.2)), some (.int (J (p : Int))), l6] [] h19 Q := by
      intro z
      induction z with
      | zero =>
        intro p t l6 e1 e2
        refine r280_46 (F19.C C) ?_
        rw [e19]
        refine ⟨by omega, fun _ => ⟨g2, fun c4 => ?_, fun c4 => ?_⟩, fun y => absurd (by omega) y⟩
        all_goals rw [show (aI h 266 2).toNat = p by omega, ← e2] at kk
        · rw [if_neg c4] at kk; exact kk
        · rw [if_pos c4] at kk; exact kk
      | succ z ih =>
        intro p t l6 e1 e2
        have tb := lb p
        rw [← e2] at tb
        have un : lkF (mst (fun g => fit g Rs (aI h 266)) (lkT Rs (aI h 266) n) r (aI h 266 0)) (p + 1) = if mst (fun g => fit g Rs (aI h 266)) (lkT Rs (aI h 266) n) r (aI h 266 0) p = 0 then lkF (mst (fun g => fit g Rs (aI h 266)) (lkT Rs (aI h 266) n) r (aI h 266 0)) p else if (lkF (mst (fun g => fit g Rs (aI h 266)) (lkT Rs (aI h 266) n) r (aI h 266 0)) p).1 < 0 then ((p : Int), mst (fun g => fit g Rs (aI h 266)) (lkT Rs (aI h 266) n) r (aI h 266 0) p) else if mst (fun g => fit g Rs (aI h 266)) (lkT Rs (aI h 266) n) r (aI h 266 0) p < (lkF (mst (fun g => fit g Rs (aI h 266)) (lkT Rs (aI h 266) n) r (aI h 266 0)) p).2 then ((p : Int), mst (fun g => fit g Rs (aI h 266)) (lkT Rs (aI h 266) n) r (aI h 266 0) p) else lkF (mst (fun g => fit g Rs (aI h 266)) (lkT Rs (aI h 266) n) r (aI h 266 0)) p := rfl
        rw [← e2] at un
        have mp := mb p
        refine r280_46 (F19.C C) ?_
        rw [e19]
        refine ⟨by omega, fun y => absurd y (by omega), fun _ => ?_⟩
        refine m281 (r := r) (P := fun g => fit g Rs (aI h 266)) (T := lkT Rs (aI h 266) n) (F19.C C) (by omega) (by rw [F19.f 256 2 (fun z => by unfold TRf TRs TR at z; omega)]; exact er) hr (by rw [e19]; omega) (by omega) (fun j j0 j1 => ⟨(a19 j j0 j1).1, (a19 j j0 j1).2 p (by omega) (by omega)⟩) ?_
        rw [e19]
        refine ⟨_, by omega, rfl, SH.rf, fun c4 => ?_, fun c4 => ⟨by omega, fun c5 => ?_, fun c5 => ⟨by omega, fun c6 => ?_, fun c6 => ?_⟩⟩⟩
        · rw [if_pos c4] at un; exact ih (p + 1) t _ (by omega) un.symm
        · rw [if_neg c4, if_pos c5] at un; exact ih (p + 1) (_, _) _ (by omega) un.symm
        · rw [if_neg c4, if_neg c5, if_pos c6] at un; exact ih (p + 1) (_, _) _ (by omega) un.symm
        · rw [if_neg c4, if_neg c5, if_neg c6] at un; exact ih (p + 1) t _ (by omega) un.symm
    exact lp (aI h 266 2).toNat 0 (-2, -2) none (by omega) rfl
  · rw [if_neg (fun z => c3 z.2.2)] at k; exact k h Fr.rf ef rfl
