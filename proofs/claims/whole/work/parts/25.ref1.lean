/-! THE REFERENCE, its small questions. The array said (cell 266) as a function of integers. -/
def pS (S : Int → Int) (p w : Int) : Int := S (10 + 6 * p + w)
def nr (S : Int → Int) (d : Int) : Int := S (42 + 3 * d)
def fr (S : Int → Int) (d : Int) : Int := S (42 + 3 * d + 1)
def wn (S : Int → Int) (d : Int) : Int := S (42 + 3 * d + 2)
/-- what always holds of said; N bounds what is counted -/
def WFb (N : Int) (S : Int → Int) : Prop := 0 ≤ S 0 ∧ S 0 ≤ 8 ∧ 0 ≤ S 1 ∧ S 1 ≤ 14 ∧ 0 ≤ S 2 ∧ S 2 ≤ 4 ∧ 0 ≤ S 3 ∧ S 3 ≤ N ∧ -1 ≤ S 4 ∧ S 4 ≤ 23 ∧ -1 ≤ S 5 ∧ S 5 ≤ 23
def WFp (N : Int) (S : Int → Int) : Prop := ∀ p, 0 ≤ p → p < S 2 → 0 ≤ pS S p 0 ∧ pS S p 0 < S 0 ∧ 0 ≤ pS S p 1 ∧ pS S p 1 < S 0 ∧ 0 ≤ pS S p 2 ∧ pS S p 2 ≤ 50 ∧ 0 ≤ pS S p 3 ∧ pS S p 3 ≤ N ∧ 0 ≤ pS S p 4 ∧ pS S p 4 ≤ N ∧ -1 ≤ pS S p 5 ∧ pS S p 5 < 4
def WFf (S : Int → Int) : Prop := ∀ r, 0 ≤ r → r < 8 → 0 ≤ S (34 + r) ∧ S (34 + r) ≤ 9
def WFd (S : Int → Int) : Prop := ∀ d, 0 ≤ d → d < S 1 → 0 ≤ nr S d ∧ nr S d < S 0 ∧ 0 ≤ fr S d ∧ fr S d < S 0 ∧ (wn S d = 0 ∨ wn S d = 1) ∧ (S (34 + nr S d) < S (34 + fr S d) ∨ (S (34 + nr S d) = S (34 + fr S d) ∧ nr S d < fr S d))
def WFu (S : Int → Int) : Prop := ∀ d e, 0 ≤ d → d < S 1 → 0 ≤ e → e < S 1 → nr S d = nr S e → fr S d = fr S e → d = e
def WFn (S : Int → Int) : Prop := 0 ≤ S 114 ∧ S 114 ≤ 10 ∧ ∀ k, 0 ≤ k → k < S 114 → 0 ≤ S (84 + 3 * k) ∧ S (84 + 3 * k) ≤ 60 ∧ 0 ≤ S (84 + 3 * k + 1) ∧ S (84 + 3 * k + 1) < S 2 ∧ 0 ≤ S (84 + 3 * k + 2) ∧ S (84 + 3 * k + 2) < S 0
def WFt (S : Int → Int) : Prop := ∀ p, 0 ≤ p → p < S 2 → 0 ≤ S (115 + 2 * p) ∧ S (115 + 2 * p) < S 0 ∧ 0 ≤ S (115 + 2 * p + 1) ∧ S (115 + 2 * p + 1) < S 0
def WF (N : Int) (S : Int → Int) : Prop := WFb N S ∧ WFp N S ∧ WFf S ∧ WFd S ∧ WFu S ∧ WFn S ∧ WFt S
theorem WF.up {N M : Int} {S : Int → Int} (w : WF N S) (l : N ≤ M) : WF M S := by
  obtain ⟨b, p, r⟩ := w
  refine ⟨?_, ?_, r⟩
  · unfold WFb at *; omega
  · intro q h1 h2; have := p q h1 h2; omega
def nightP (S : Int → Int) : Prop := 0 < S 0 ∧ 0 ≤ S 4 ∧ S 4 ≤ S 3 % 24 ∧ S 3 % 24 ≤ S 5
def opn (S : Int → Int) (t : Prop) (d : Int) : Prop := ¬ S (34 + nr S d) = S (34 + fr S d) ∧ (wn S d = 0 ∨ t)
theorem lcm_lt {a b : Int} (ha : -2147483648 ≤ a ∧ a < 2147483648) (hb : -2147483648 ≤ b ∧ b < 2147483648) : lcm (i2l a) (i2l b) < 0 ↔ a < b := by
  have e : ∀ c, -2147483648 ≤ c ∧ c < 2147483648 → (i2l c).toInt = c := fun c hc => by unfold i2l; rw [Int32.toInt_toInt64]; exact toInt_J hc
  unfold lcm lg_cmp
  split
  · rename_i g
    have g' : (i2l b).toInt < (i2l a).toInt := Int64.lt_iff_toInt_lt.mp g
    rw [e _ ha, e _ hb] at g'
    exact ⟨fun q => absurd q (by decide), fun q => by omega⟩
  · rename_i g
    have g' : ¬ (i2l b).toInt < (i2l a).toInt := fun q => g (Int64.lt_iff_toInt_lt.mpr q)
    rw [e _ ha, e _ hb] at g'
    split
    · rename_i q
      have q' := congrArg Int64.toInt q
      rw [e _ ha, e _ hb] at q'
      exact ⟨fun q => absurd q (by decide), fun q => by omega⟩
    · rename_i q
      have q' : ¬ a = b := fun z => q (by rw [z])
      exact ⟨fun _ => by omega, fun _ => by decide⟩
theorem lcm_gt {a b : Int} (ha : -2147483648 ≤ a ∧ a < 2147483648) (hb : -2147483648 ≤ b ∧ b < 2147483648) : 0 < lcm (i2l a) (i2l b) ↔ b < a := by
  have e : ∀ c, -2147483648 ≤ c ∧ c < 2147483648 → (i2l c).toInt = c := fun c hc => by unfold i2l; rw [Int32.toInt_toInt64]; exact toInt_J hc
  unfold lcm lg_cmp
  split
  · rename_i g
    have g' : (i2l b).toInt < (i2l a).toInt := Int64.lt_iff_toInt_lt.mp g
    rw [e _ ha, e _ hb] at g'
    exact ⟨fun _ => g', fun _ => by decide⟩
  · rename_i g
    have g' : ¬ (i2l b).toInt < (i2l a).toInt := fun q => g (Int64.lt_iff_toInt_lt.mpr q)
    rw [e _ ha, e _ hb] at g'
    split
    · exact ⟨fun q => absurd q (by decide), fun q => absurd q g'⟩
    · exact ⟨fun q => absurd q (by decide), fun q => absurd q g'⟩
theorem idv_nn {a b : Int} (ha : 0 ≤ a ∧ a < 2147483648) (hb : 0 < b ∧ b < 2147483648) : idv a b = a / b := by
  unfold idv
  rw [Int32.toInt_div_of_ne_right]
  · rw [toInt_J ⟨by omega, ha.2⟩, toInt_J ⟨by omega, hb.2⟩]
    exact Int.tdiv_eq_ediv_of_nonneg ha.1
  · intro e
    have := congrArg Int32.toInt e
    rw [toInt_J ⟨by omega, hb.2⟩] at this
    have e2 : (-1 : Int32).toInt = -1 := by decide
    omega
theorem rem_nn {a b : Int} (ha : 0 ≤ a ∧ a < 2147483648) (hb : 0 < b ∧ b < 2147483648) : a - idv a b * b = a % b := by
  rw [idv_nn ha hb]
  have := Int.emod_add_mul_ediv a b
  rw [Int.mul_comm b] at this
  omega
-- OutwardDoorsModel.in(JJJ)Z at 0
set_option maxRecDepth 20000 in
set_option maxHeartbeats 4000000 in
theorem r186_0 {X : Cst} {d : Nat} {x0 : Int64} {x2 : Int64} {x4 : Int64} {h : AH} {Q : Post} (C_h : Lay h)
  (w : ((lcm x0 x2 < 0 → Q (some (.int (J 0))) h) ∧ (¬ lcm x0 x2 < 0 → ((0 < lcm x0 x4 → Q (some (.int (J 0))) h) ∧ (¬ 0 < lcm x0 x4 → Q (some (.int (J 1))) h))))) :
    Ex X PG (d + 1) 186 0 [some (.long x0), none, some (.long x2), none, some (.long x4), none] [] h Q := by
  refine wpx_ok (cut := []) 11 d 186 0 _ _ _ _ ?_
  show (((lg_cmp x0 x2) < (J 0) → (J 0 = J 0 ∨ J 0 = J 1) ∧ Q (some (.int (J 0))) h) ∧ (¬ ((lg_cmp x0 x2) < (J 0)) → (((J 0) < (lg_cmp x0 x4) → (J 0 = J 0 ∨ J 0 = J 1) ∧ Q (some (.int (J 0))) h) ∧ (¬ ((J 0) < (lg_cmp x0 x4)) → (J 1 = J 0 ∨ J 1 = J 1) ∧ Q (some (.int (J 1))) h))))
  try simp only [aI_wAL, fI_wAL, aL_wA, aL_wF, aI_wA_ne, aI_wF_ne, fI_wA_ne, fI_wF_ne, fI_wF_nk, aL_wAL_ne, J_sameA, J_sameF, aL_same, Nat.add_left_cancel_iff, Nat.add_eq_left, Nat.left_eq_add, not_false_eq_true, Nat.reduceEqDiff, Nat.reduceAdd, J_add, J_sub, J_mul, J_neg, J_and, J_or, J_xor, J_shl, J_shr, J_div, J_i2b, J_i2l, J_l2i, J_lcm, J_max, J_min, J_nab, J_nao, rdA, rdF, rdL, wA_fold, wF_fold, wL_fold, wC_fold]
  refine ⟨fun c1 => ?_, fun c1 => ?_⟩
  · have t2 : lcm x0 x2 < 0 := ((Jlt (rg_toInt _) (by decide)).mp c1)
    replace w := w.1 t2
    exact ⟨(Or.inl (by trivial)), w⟩
  · have t2 : ¬ lcm x0 x2 < 0 := (fun e => c1 ((Jlt (rg_toInt _) (by decide)).mpr e))
    replace w := w.2 t2
    refine ⟨fun c3 => ?_, fun c3 => ?_⟩
    · have t4 : 0 < lcm x0 x4 := ((Jlt (by decide) (rg_toInt _)).mp c3)
      replace w := w.1 t4
      exact ⟨(Or.inl (by trivial)), w⟩
    · have t4 : ¬ 0 < lcm x0 x4 := (fun e => c3 ((Jlt (by decide) (rg_toInt _)).mpr e))
      replace w := w.2 t4
      exact ⟨(Or.inr (by trivial)), w⟩
theorem m186 {X : Cst} {d : Nat} {v lo hi : Int} {h : AH} {Q : Post} (C : Lay h) (hd : 1 ≤ d) (g1 : -2147483648 ≤ v ∧ v < 2147483648) (g2 : -2147483648 ≤ lo ∧ lo < 2147483648) (g3 : -2147483648 ≤ hi ∧ hi < 2147483648) (k : Q (some (.int (J (bI (lo ≤ v ∧ v ≤ hi))))) h) : Ex X PG d 186 0 [some (.long (i2l v)), none, some (.long (i2l lo)), none, some (.long (i2l hi)), none] [] h Q := by
  obtain ⟨d, rfl⟩ : ∃ e, d = e + 1 := ⟨d - 1, by omega⟩
  refine r186_0 C ⟨fun c => ?_, fun c => ⟨fun c' => ?_, fun c' => ?_⟩⟩
  · rw [bI_neg (by rw [lcm_lt g1 g2] at c; omega)] at k; exact k
  · rw [bI_neg (by rw [lcm_gt g1 g3] at c'; omega)] at k; exact k
  · rw [lcm_lt g1 g2] at c; rw [lcm_gt g1 g3] at c'; rw [bI_pos (by omega)] at k; exact k
-- OutwardDoorsModel.personOf(II)I at 0
set_option maxRecDepth 20000 in
set_option maxHeartbeats 4000000 in
theorem r209_0 {X : Cst} {d : Nat} {x1 : Int} {x2 : Int} {h : AH} {Q : Post} (C_h : Lay h)
  (w : (0 ≤ (10 + (6 * x1)) + x2 ∧ (10 + (6 * x1)) + x2 < 123) ∧ Q (some (.int (J (aI h 266 ((10 + (6 * x1)) + x2))))) h) :
    Ex X PG (d + 1) 209 0 [some (.ref 256), some (.int (J x1)), some (.int (J x2))] [] h Q := by
  refine wpx_ok (cut := []) 11 d 209 0 _ _ _ _ ?_
  show hs h 256 = (0, 11) ∧ ∃ q1, hR h 256 20 = some q1 ∧ (hs h q1).1 = 1 ∧ ix (((J 10) + ((J 6) * (J x1))) + (J x2)) (hs h q1).2 ∧ Q (some (.int (hI h q1 (Int32.toNatClampNeg (((J 10) + ((J 6) * (J x1))) + (J x2)))))) h
  try simp only [aI_wAL, fI_wAL, aL_wA, aL_wF, aI_wA_ne, aI_wF_ne, fI_wA_ne, fI_wF_ne, fI_wF_nk, aL_wAL_ne, J_sameA, J_sameF, aL_same, Nat.add_left_cancel_iff, Nat.add_eq_left, Nat.left_eq_add, not_false_eq_true, Nat.reduceEqDiff, Nat.reduceAdd, J_add, J_sub, J_mul, J_neg, J_and, J_or, J_xor, J_shl, J_shr, J_div, J_i2b, J_i2l, J_l2i, J_lcm, J_max, J_min, J_nab, J_nao, rdA, rdF, rdL, wA_fold, wF_fold, wL_fold, wC_fold]
  refine ⟨(ls256 C_h), _, (lr256_20 C_h), ?_⟩
  obtain ⟨k2, w⟩ := w
  refine ⟨congrArg Prod.fst (ls266 C_h), ixs (ls266 C_h) k2 (by decide), ?_⟩
  exact w
theorem m209 {X : Cst} {d : Nat} {p w : Int} {h : AH} {Q : Post} (C : Lay h) (hd : 1 ≤ d) (c : 0 ≤ 10 + 6 * p + w ∧ 10 + 6 * p + w < 123) (k : Q (some (.int (J (pS (aI h 266) p w)))) h) : Ex X PG d 209 0 [some (.ref 256), some (.int (J p)), some (.int (J w))] [] h Q := by
  obtain ⟨d, rfl⟩ : ∃ e, d = e + 1 := ⟨d - 1, by omega⟩
  exact r209_0 C ⟨c, k⟩
-- OutwardDoorsModel.nearOf(I)I at 0
set_option maxRecDepth 20000 in
set_option maxHeartbeats 4000000 in
theorem r218_0 {X : Cst} {d : Nat} {x1 : Int} {h : AH} {Q : Post} (C_h : Lay h)
  (w : (0 ≤ 42 + (3 * x1) ∧ 42 + (3 * x1) < 123) ∧ Q (some (.int (J (aI h 266 (42 + (3 * x1)))))) h) :
    Ex X PG (d + 1) 218 0 [some (.ref 256), some (.int (J x1))] [] h Q := by
  refine wpx_ok (cut := []) 9 d 218 0 _ _ _ _ ?_
  show hs h 256 = (0, 11) ∧ ∃ q1, hR h 256 20 = some q1 ∧ (hs h q1).1 = 1 ∧ ix ((J 42) + ((J 3) * (J x1))) (hs h q1).2 ∧ Q (some (.int (hI h q1 (Int32.toNatClampNeg ((J 42) + ((J 3) * (J x1))))))) h
  try simp only [aI_wAL, fI_wAL, aL_wA, aL_wF, aI_wA_ne, aI_wF_ne, fI_wA_ne, fI_wF_ne, fI_wF_nk, aL_wAL_ne, J_sameA, J_sameF, aL_same, Nat.add_left_cancel_iff, Nat.add_eq_left, Nat.left_eq_add, not_false_eq_true, Nat.reduceEqDiff, Nat.reduceAdd, J_add, J_sub, J_mul, J_neg, J_and, J_or, J_xor, J_shl, J_shr, J_div, J_i2b, J_i2l, J_l2i, J_lcm, J_max, J_min, J_nab, J_nao, rdA, rdF, rdL, wA_fold, wF_fold, wL_fold, wC_fold]
  refine ⟨(ls256 C_h), _, (lr256_20 C_h), ?_⟩
  obtain ⟨k2, w⟩ := w
  refine ⟨congrArg Prod.fst (ls266 C_h), ixs (ls266 C_h) k2 (by decide), ?_⟩
  exact w
theorem m218 {X : Cst} {d : Nat} {x : Int} {h : AH} {Q : Post} (C : Lay h) (hd : 1 ≤ d) (c : 0 ≤ x ∧ x < 14) (k : Q (some (.int (J (nr (aI h 266) x)))) h) : Ex X PG d 218 0 [some (.ref 256), some (.int (J x))] [] h Q := by
  obtain ⟨d, rfl⟩ : ∃ e, d = e + 1 := ⟨d - 1, by omega⟩
  exact r218_0 C ⟨by omega, k⟩
-- OutwardDoorsModel.farOf(I)I at 0
set_option maxRecDepth 20000 in
set_option maxHeartbeats 4000000 in
theorem r219_0 {X : Cst} {d : Nat} {x1 : Int} {h : AH} {Q : Post} (C_h : Lay h)
  (w : (0 ≤ (42 + (3 * x1)) + 1 ∧ (42 + (3 * x1)) + 1 < 123) ∧ Q (some (.int (J (aI h 266 ((42 + (3 * x1)) + 1))))) h) :
    Ex X PG (d + 1) 219 0 [some (.ref 256), some (.int (J x1))] [] h Q := by
  refine wpx_ok (cut := []) 11 d 219 0 _ _ _ _ ?_
  show hs h 256 = (0, 11) ∧ ∃ q1, hR h 256 20 = some q1 ∧ (hs h q1).1 = 1 ∧ ix (((J 42) + ((J 3) * (J x1))) + (J 1)) (hs h q1).2 ∧ Q (some (.int (hI h q1 (Int32.toNatClampNeg (((J 42) + ((J 3) * (J x1))) + (J 1)))))) h
  try simp only [aI_wAL, fI_wAL, aL_wA, aL_wF, aI_wA_ne, aI_wF_ne, fI_wA_ne, fI_wF_ne, fI_wF_nk, aL_wAL_ne, J_sameA, J_sameF, aL_same, Nat.add_left_cancel_iff, Nat.add_eq_left, Nat.left_eq_add, not_false_eq_true, Nat.reduceEqDiff, Nat.reduceAdd, J_add, J_sub, J_mul, J_neg, J_and, J_or, J_xor, J_shl, J_shr, J_div, J_i2b, J_i2l, J_l2i, J_lcm, J_max, J_min, J_nab, J_nao, rdA, rdF, rdL, wA_fold, wF_fold, wL_fold, wC_fold]
  refine ⟨(ls256 C_h), _, (lr256_20 C_h), ?_⟩
  obtain ⟨k2, w⟩ := w
  refine ⟨congrArg Prod.fst (ls266 C_h), ixs (ls266 C_h) k2 (by decide), ?_⟩
  exact w
theorem m219 {X : Cst} {d : Nat} {x : Int} {h : AH} {Q : Post} (C : Lay h) (hd : 1 ≤ d) (c : 0 ≤ x ∧ x < 14) (k : Q (some (.int (J (fr (aI h 266) x)))) h) : Ex X PG d 219 0 [some (.ref 256), some (.int (J x))] [] h Q := by
  obtain ⟨d, rfl⟩ : ∃ e, d = e + 1 := ⟨d - 1, by omega⟩
  exact r219_0 C ⟨by omega, k⟩
-- OutwardDoorsModel.isNight()Z at 0
set_option maxRecDepth 20000 in
set_option maxHeartbeats 4000000 in
theorem r220_0 {X : Cst} {d : Nat}  {h : AH} {Q : Post} (C_h : Lay h)
  (w : ((aI h 266 0 ≤ 0 → Q (some (.int (J 0))) h) ∧ (¬ aI h 266 0 ≤ 0 → ((aI h 266 4 < 0 → Q (some (.int (J 0))) h) ∧ (¬ aI h 266 4 < 0 → (-2147483648 ≤ (aI h 266 3) - idv (aI h 266 3) 24 * 24 ∧ (aI h 266 3) - idv (aI h 266 3) 24 * 24 < 2147483648) ∧ (((aI h 266 3) - idv (aI h 266 3) 24 * 24 < aI h 266 4 → Q (some (.int (J 0))) h) ∧ (¬ (aI h 266 3) - idv (aI h 266 3) 24 * 24 < aI h 266 4 → ((aI h 266 5 < (aI h 266 3) - idv (aI h 266 3) 24 * 24 → Q (some (.int (J 0))) h) ∧ (¬ aI h 266 5 < (aI h 266 3) - idv (aI h 266 3) 24 * 24 → Q (some (.int (J 1))) h))))))))) :
    Ex X PG (d + 1) 220 0 [some (.ref 256), none] [] h Q := by
  refine wpx_ok (cut := []) 32 d 220 0 _ _ _ _ ?_
  show hs h 256 = (0, 11) ∧ ∃ q1, hR h 256 20 = some q1 ∧ (hs h q1).1 = 1 ∧ ix (J 3) (hs h q1).2 ∧ ¬ (J 24) = J 0 ∧ hs h 256 = (0, 11) ∧ ∃ q2, hR h 256 20 = some q2 ∧ (hs h q2).1 = 1 ∧ ix (J 0) (hs h q2).2 ∧ (((hI h q2 (Int32.toNatClampNeg (J 0))) ≤ (J 0) → (J 0 = J 0 ∨ J 0 = J 1) ∧ Q (some (.int (J 0))) h) ∧ (¬ ((hI h q2 (Int32.toNatClampNeg (J 0))) ≤ (J 0)) → hs h 256 = (0, 11) ∧ ∃ q5, hR h 256 20 = some q5 ∧ (hs h q5).1 = 1 ∧ ix (J 4) (hs h q5).2 ∧ (((hI h q5 (Int32.toNatClampNeg (J 4))) < (J 0) → (J 0 = J 0 ∨ J 0 = J 1) ∧ Q (some (.int (J 0))) h) ∧ (¬ ((hI h q5 (Int32.toNatClampNeg (J 4))) < (J 0)) → hs h 256 = (0, 11) ∧ ∃ q8, hR h 256 20 = some q8 ∧ (hs h q8).1 = 1 ∧ ix (J 4) (hs h q8).2 ∧ ((((hI h q1 (Int32.toNatClampNeg (J 3))) - (hI h q1 (Int32.toNatClampNeg (J 3))) / (J 24) * (J 24)) < (hI h q8 (Int32.toNatClampNeg (J 4))) → (J 0 = J 0 ∨ J 0 = J 1) ∧ Q (some (.int (J 0))) h) ∧ (¬ (((hI h q1 (Int32.toNatClampNeg (J 3))) - (hI h q1 (Int32.toNatClampNeg (J 3))) / (J 24) * (J 24)) < (hI h q8 (Int32.toNatClampNeg (J 4)))) → hs h 256 = (0, 11) ∧ ∃ q12, hR h 256 20 = some q12 ∧ (hs h q12).1 = 1 ∧ ix (J 5) (hs h q12).2 ∧ (((hI h q12 (Int32.toNatClampNeg (J 5))) < ((hI h q1 (Int32.toNatClampNeg (J 3))) - (hI h q1 (Int32.toNatClampNeg (J 3))) / (J 24) * (J 24)) → (J 0 = J 0 ∨ J 0 = J 1) ∧ Q (some (.int (J 0))) h) ∧ (¬ ((hI h q12 (Int32.toNatClampNeg (J 5))) < ((hI h q1 (Int32.toNatClampNeg (J 3))) - (hI h q1 (Int32.toNatClampNeg (J 3))) / (J 24) * (J 24))) → (J 1 = J 0 ∨ J 1 = J 1) ∧ Q (some (.int (J 1))) h))))))))
  try simp only [aI_wAL, fI_wAL, aL_wA, aL_wF, aI_wA_ne, aI_wF_ne, fI_wA_ne, fI_wF_ne, fI_wF_nk, aL_wAL_ne, J_sameA, J_sameF, aL_same, Nat.add_left_cancel_iff, Nat.add_eq_left, Nat.left_eq_add, not_false_eq_true, Nat.reduceEqDiff, Nat.reduceAdd, J_add, J_sub, J_mul, J_neg, J_and, J_or, J_xor, J_shl, J_shr, J_div, J_i2b, J_i2l, J_l2i, J_lcm, J_max, J_min, J_nab, J_nao, rdA, rdF, rdL, wA_fold, wF_fold, wL_fold, wC_fold]
  refine ⟨(ls256 C_h), _, (lr256_20 C_h), ?_⟩
  refine ⟨congrArg Prod.fst (ls266 C_h), ixs (ls266 C_h) (by decide) (by decide), ?_⟩
  refine ⟨by decide, ?_⟩
  refine ⟨(ls256 C_h), _, (lr256_20 C_h), ?_⟩
  refine ⟨congrArg Prod.fst (ls266 C_h), ixs (ls266 C_h) (by decide) (by decide), ?_⟩
  refine ⟨fun c3 => ?_, fun c3 => ?_⟩
  · have t4 : aI h 266 0 ≤ 0 := ((Jle (rg_toInt _) (by decide)).mp c3)
    replace w := w.1 t4
    exact ⟨(Or.inl (by trivial)), w⟩
  · have t4 : ¬ aI h 266 0 ≤ 0 := (fun e => c3 ((Jle (rg_toInt _) (by decide)).mpr e))
    replace w := w.2 t4
    refine ⟨(ls256 C_h), _, (lr256_20 C_h), ?_⟩
    refine ⟨congrArg Prod.fst (ls266 C_h), ixs (ls266 C_h) (by decide) (by decide), ?_⟩
    refine ⟨fun c6 => ?_, fun c6 => ?_⟩
    · have t7 : aI h 266 4 < 0 := ((Jlt (rg_toInt _) (by decide)).mp c6)
      replace w := w.1 t7
      exact ⟨(Or.inl (by trivial)), w⟩
    · have t7 : ¬ aI h 266 4 < 0 := (fun e => c6 ((Jlt (rg_toInt _) (by decide)).mpr e))
      replace w := w.2 t7
      refine ⟨(ls256 C_h), _, (lr256_20 C_h), ?_⟩
      refine ⟨congrArg Prod.fst (ls266 C_h), ixs (ls266 C_h) (by decide) (by decide), ?_⟩
      obtain ⟨k11, w⟩ := w
      refine ⟨fun c9 => ?_, fun c9 => ?_⟩
      · have t10 : (aI h 266 3) - idv (aI h 266 3) 24 * 24 < aI h 266 4 := ((Jlt k11 (rg_toInt _)).mp c9)
        replace w := w.1 t10
        exact ⟨(Or.inl (by trivial)), w⟩
      · have t10 : ¬ (aI h 266 3) - idv (aI h 266 3) 24 * 24 < aI h 266 4 := (fun e => c9 ((Jlt k11 (rg_toInt _)).mpr e))
        replace w := w.2 t10
        refine ⟨(ls256 C_h), _, (lr256_20 C_h), ?_⟩
        refine ⟨congrArg Prod.fst (ls266 C_h), ixs (ls266 C_h) (by decide) (by decide), ?_⟩
        refine ⟨fun c13 => ?_, fun c13 => ?_⟩
        · have t14 : aI h 266 5 < (aI h 266 3) - idv (aI h 266 3) 24 * 24 := ((Jlt (rg_toInt _) k11).mp c13)
          replace w := w.1 t14
          exact ⟨(Or.inl (by trivial)), w⟩
        · have t14 : ¬ aI h 266 5 < (aI h 266 3) - idv (aI h 266 3) 24 * 24 := (fun e => c13 ((Jlt (rg_toInt _) k11).mpr e))
          replace w := w.2 t14
          exact ⟨(Or.inr (by trivial)), w⟩
theorem m220 {X : Cst} {d : Nat} {h : AH} {Q : Post} (C : Lay h) (hd : 1 ≤ d) (c : WF 999 (aI h 266)) (k : Q (some (.int (J (bI (nightP (aI h 266)))))) h) : Ex X PG d 220 0 [some (.ref 256), none] [] h Q := by
  obtain ⟨d, rfl⟩ : ∃ e, d = e + 1 := ⟨d - 1, by omega⟩
  have b := c.1
  unfold WFb at b
  refine r220_0 C ?_
  rw [rem_nn (by omega) (by omega)]
  unfold nightP at k
  refine ⟨fun c1 => ?_, fun c1 => ⟨fun c2 => ?_, fun c2 => ⟨by omega, fun c3 => ?_, fun c3 => ⟨fun c4 => ?_, fun c4 => ?_⟩⟩⟩⟩
  · rw [bI_neg (by omega)] at k; exact k
  · rw [bI_neg (by omega)] at k; exact k
  · rw [bI_neg (by omega)] at k; exact k
  · rw [bI_neg (by omega)] at k; exact k
  · rw [bI_pos (by omega)] at k; exact k
-- OutwardDoorsModel.isOpen(I)Z at 0
set_option maxRecDepth 20000 in
set_option maxHeartbeats 4000000 in
theorem r217_0 {X : Cst} {d : Nat} {x1 : Int} {h : AH} {Q : Post} (C_h : Lay h) (hd : 1 ≤ d)
  (w : (0 ≤ x1 ∧ x1 < 14) ∧ (0 ≤ 34 + (nr (aI h 266) x1) ∧ 34 + (nr (aI h 266) x1) < 123) ∧ (0 ≤ 34 + (fr (aI h 266) x1) ∧ 34 + (fr (aI h 266) x1) < 123) ∧ ((aI h 266 (34 + (nr (aI h 266) x1)) = aI h 266 (34 + (fr (aI h 266) x1)) → Q (some (.int (J 0))) h) ∧ (¬ aI h 266 (34 + (nr (aI h 266) x1)) = aI h 266 (34 + (fr (aI h 266) x1)) → (0 ≤ (42 + (3 * x1)) + 2 ∧ (42 + (3 * x1)) + 2 < 123) ∧ ((aI h 266 ((42 + (3 * x1)) + 2) = 0 → Q (some (.int (J 1))) h) ∧ (¬ aI h 266 ((42 + (3 * x1)) + 2) = 0 → (WF 999 (aI h 266)) ∧ ((¬ (nightP (aI h 266)) → Q (some (.int (J 0))) h) ∧ ((nightP (aI h 266)) → Q (some (.int (J 1))) h))))))) :
    Ex X PG (d + 1) 217 0 [some (.ref 256), some (.int (J x1))] [] h Q := by
  refine wpx_ok (cut := []) 34 d 217 0 _ _ _ _ ?_
  show hs h 256 = (0, 11) ∧ ∃ q1, hR h 256 20 = some q1 ∧ hs h 256 = (0, 11) ∧ Ex X PG d 218 0 [some (.ref 256), some (.int (J x1))] [] h (fun v2 h3 => ∃ r4, v2 = some (.int r4) ∧ (hs h3 q1).1 = 1 ∧ ix ((J 34) + r4) (hs h3 q1).2 ∧ hs h3 256 = (0, 11) ∧ ∃ q7, hR h3 256 20 = some q7 ∧ hs h3 256 = (0, 11) ∧ Ex X PG d 219 0 [some (.ref 256), some (.int (J x1))] [] h3 (fun v8 h9 => ∃ r10, v8 = some (.int r10) ∧ (hs h9 q7).1 = 1 ∧ ix ((J 34) + r10) (hs h9 q7).2 ∧ (((hI h3 q1 (Int32.toNatClampNeg ((J 34) + r4))) = (hI h9 q7 (Int32.toNatClampNeg ((J 34) + r10))) → (J 0 = J 0 ∨ J 0 = J 1) ∧ Q (some (.int (J 0))) h9) ∧ (¬ ((hI h3 q1 (Int32.toNatClampNeg ((J 34) + r4))) = (hI h9 q7 (Int32.toNatClampNeg ((J 34) + r10)))) → hs h9 256 = (0, 11) ∧ ∃ q14, hR h9 256 20 = some q14 ∧ (hs h9 q14).1 = 1 ∧ ix (((J 42) + ((J 3) * (J x1))) + (J 2)) (hs h9 q14).2 ∧ (((hI h9 q14 (Int32.toNatClampNeg (((J 42) + ((J 3) * (J x1))) + (J 2)))) = (J 0) → (J 1 = J 0 ∨ J 1 = J 1) ∧ Q (some (.int (J 1))) h9) ∧ (¬ ((hI h9 q14 (Int32.toNatClampNeg (((J 42) + ((J 3) * (J x1))) + (J 2)))) = (J 0)) → hs h9 256 = (0, 11) ∧ Ex X PG d 220 0 [some (.ref 256), none] [] h9 (fun v18 h19 => ∃ r20, v18 = some (.int r20) ∧ ((r20 = (J 0) → (J 0 = J 0 ∨ J 0 = J 1) ∧ Q (some (.int (J 0))) h19) ∧ (¬ (r20 = (J 0)) → (J 1 = J 0 ∨ J 1 = J 1) ∧ Q (some (.int (J 1))) h19)))))))))
  try simp only [aI_wAL, fI_wAL, aL_wA, aL_wF, aI_wA_ne, aI_wF_ne, fI_wA_ne, fI_wF_ne, fI_wF_nk, aL_wAL_ne, J_sameA, J_sameF, aL_same, Nat.add_left_cancel_iff, Nat.add_eq_left, Nat.left_eq_add, not_false_eq_true, Nat.reduceEqDiff, Nat.reduceAdd, J_add, J_sub, J_mul, J_neg, J_and, J_or, J_xor, J_shl, J_shr, J_div, J_i2b, J_i2l, J_l2i, J_lcm, J_max, J_min, J_nab, J_nao, rdA, rdF, rdL, wA_fold, wF_fold, wL_fold, wC_fold]
  refine ⟨(ls256 C_h), _, (lr256_20 C_h), ?_⟩
  refine ⟨(ls256 C_h), ?_⟩
  obtain ⟨k5, w⟩ := w
  refine m218 (h := h) (x := x1) C_h (by omega) k5 ?_
  refine ⟨_, rfl, ?_⟩
  try simp only [aI_wAL, fI_wAL, aL_wA, aL_wF, aI_wA_ne, aI_wF_ne, fI_wA_ne, fI_wF_ne, fI_wF_nk, aL_wAL_ne, J_sameA, J_sameF, aL_same, Nat.add_left_cancel_iff, Nat.add_eq_left, Nat.left_eq_add, not_false_eq_true, Nat.reduceEqDiff, Nat.reduceAdd, J_add, J_sub, J_mul, J_neg, J_and, J_or, J_xor, J_shl, J_shr, J_div, J_i2b, J_i2l, J_l2i, J_lcm, J_max, J_min, J_nab, J_nao, rdA, rdF, rdL, wA_fold, wF_fold, wL_fold, wC_fold]
  obtain ⟨k6, w⟩ := w
  refine ⟨congrArg Prod.fst (ls266 C_h), ixs (ls266 C_h) k6 (by decide), ?_⟩
  refine ⟨(ls256 C_h), _, (lr256_20 C_h), ?_⟩
  refine ⟨(ls256 C_h), ?_⟩
  refine m219 (h := h) (x := x1) C_h (by omega) k5 ?_
  refine ⟨_, rfl, ?_⟩
  try simp only [aI_wAL, fI_wAL, aL_wA, aL_wF, aI_wA_ne, aI_wF_ne, fI_wA_ne, fI_wF_ne, fI_wF_nk, aL_wAL_ne, J_sameA, J_sameF, aL_same, Nat.add_left_cancel_iff, Nat.add_eq_left, Nat.left_eq_add, not_false_eq_true, Nat.reduceEqDiff, Nat.reduceAdd, J_add, J_sub, J_mul, J_neg, J_and, J_or, J_xor, J_shl, J_shr, J_div, J_i2b, J_i2l, J_l2i, J_lcm, J_max, J_min, J_nab, J_nao, rdA, rdF, rdL, wA_fold, wF_fold, wL_fold, wC_fold]
  obtain ⟨k11, w⟩ := w
  refine ⟨congrArg Prod.fst (ls266 C_h), ixs (ls266 C_h) k11 (by decide), ?_⟩
  refine ⟨fun c12 => ?_, fun c12 => ?_⟩
  · have t13 : aI h 266 (34 + (nr (aI h 266) x1)) = aI h 266 (34 + (fr (aI h 266) x1)) := ((Jeq (rg_toInt _) (rg_toInt _)).mp c12)
    replace w := w.1 t13
    exact ⟨(Or.inl (by trivial)), w⟩
  · have t13 : ¬ aI h 266 (34 + (nr (aI h 266) x1)) = aI h 266 (34 + (fr (aI h 266) x1)) := (fun e => c12 ((Jeq (rg_toInt _) (rg_toInt _)).mpr e))
    replace w := w.2 t13
    refine ⟨(ls256 C_h), _, (lr256_20 C_h), ?_⟩
    obtain ⟨k15, w⟩ := w
    refine ⟨congrArg Prod.fst (ls266 C_h), ixs (ls266 C_h) k15 (by decide), ?_⟩
    refine ⟨fun c16 => ?_, fun c16 => ?_⟩
    · have t17 : aI h 266 ((42 + (3 * x1)) + 2) = 0 := ((Jeq (rg_toInt _) (by decide)).mp c16)
      replace w := w.1 t17
      exact ⟨(Or.inr (by trivial)), w⟩
    · have t17 : ¬ aI h 266 ((42 + (3 * x1)) + 2) = 0 := (fun e => c16 ((Jeq (rg_toInt _) (by decide)).mpr e))
      replace w := w.2 t17
      refine ⟨(ls256 C_h), ?_⟩
      obtain ⟨k21, w⟩ := w
      refine m220 (h := h)  C_h (by omega) k21 ?_
      refine ⟨_, rfl, ?_⟩
      try simp only [aI_wAL, fI_wAL, aL_wA, aL_wF, aI_wA_ne, aI_wF_ne, fI_wA_ne, fI_wF_ne, fI_wF_nk, aL_wAL_ne, J_sameA, J_sameF, aL_same, Nat.add_left_cancel_iff, Nat.add_eq_left, Nat.left_eq_add, not_false_eq_true, Nat.reduceEqDiff, Nat.reduceAdd, J_add, J_sub, J_mul, J_neg, J_and, J_or, J_xor, J_shl, J_shr, J_div, J_i2b, J_i2l, J_l2i, J_lcm, J_max, J_min, J_nab, J_nao, rdA, rdF, rdL, wA_fold, wF_fold, wL_fold, wC_fold]
      refine ⟨fun c22 => ?_, fun c22 => ?_⟩
      · have t23 : ¬ (nightP (aI h 266)) := ((bI0 _).mp c22)
        replace w := w.1 t23
        exact ⟨(Or.inl (by trivial)), w⟩
      · have t23 : (nightP (aI h 266)) := (Classical.byContradiction fun n => c22 ((bI0 _).mpr n))
        replace w := w.2 t23
        exact ⟨(Or.inr (by trivial)), w⟩
theorem m217 {X : Cst} {d : Nat} {x : Int} {h : AH} {Q : Post} (C : Lay h) (hd : 2 ≤ d) (c : WF 999 (aI h 266)) (cx : 0 ≤ x ∧ x < aI h 266 1) (k : Q (some (.int (J (bI (opn (aI h 266) (nightP (aI h 266)) x))))) h) : Ex X PG d 217 0 [some (.ref 256), some (.int (J x))] [] h Q := by
  obtain ⟨d, rfl⟩ : ∃ e, d = e + 1 := ⟨d - 1, by omega⟩
  have b := c.1
  unfold WFb at b
  have e := c.2.2.2.1 x cx.1 cx.2
  refine r217_0 C (by omega) ⟨by omega, by omega, by omega, fun c1 => ?_, fun c1 => ⟨by omega, fun c2 => ?_, fun c2 => ⟨c, fun c3 => ?_, fun c3 => ?_⟩⟩⟩
  · rw [bI_neg (fun o => o.1 c1)] at k; exact k
  · rw [bI_pos ⟨c1, Or.inl c2⟩] at k; exact k
  · rw [bI_neg (fun o => o.2.elim c2 c3)] at k; exact k
  · rw [bI_pos ⟨c1, Or.inr c3⟩] at k; exact k
