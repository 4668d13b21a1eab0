/-! THE CLASS: a plan, and what is asked of it. hr is 0 by day, 1 by night. -/
def nightM (S : Int → Int) (m : Int) : Prop := 0 < S 0 ∧ 0 ≤ S 4 ∧ S 4 ≤ m % 24 ∧ m % 24 ≤ S 5
theorem nightM_P (S : Int → Int) : nightM S (S 3) = nightP S := rfl
def PlanRep (h : AH) (a : Nat) (S : Int → Int) : Prop :=
  (fI h a 0 = S 0 ∧ fI h a 1 = S 1 ∧ fI h a 2 = S 2 ∧ ∀ m, 0 ≤ m → (0 ≤ fI h a 5 ∧ fI h a 4 ≤ m % 24 ∧ m % 24 ≤ fI h a 5 ↔ nightM S m)) ∧
  (0 ≤ fI h a 3 ∧ fI h a 3 < 16384 ∧ ∀ d, 0 ≤ d → d < S 1 → (bt (fI h a 3) d ↔ wn S d = 1)) ∧
  (∀ r, 0 ≤ r → r < 8 → aI h (a + 1) r = S (34 + r)) ∧
  (∀ d, 0 ≤ d → d < S 1 → aI h (a + 2) d = nr S d ∧ aI h (a + 3) d = fr S d) ∧
  (∀ p, 0 ≤ p → p < S 2 → aI h (a + 4) p = S (115 + 2 * p) ∧ aI h (a + 5) p = S (115 + 2 * p + 1) ∧ aI h (a + 6) p = pS S p 2) ∧
  (∀ x y, 0 ≤ x → x < 8 → 0 ≤ y → y < 8 → aI h (a + 7) (x * 8 + y) = dbt S x y) ∧
  (∀ r, 0 ≤ r → r < 2 → (0 ≤ aI h (a + 8) r ∧ aI h (a + 8) r < 16384) ∧ ∀ d, 0 ≤ d → d < 14 → (bt (aI h (a + 8) r) d ↔ d < S 1 ∧ opn S (r = 1) d)) ∧
  (∀ r x, 0 ≤ r → r < 2 → 0 ≤ x → x < 8 → (0 ≤ aI h (a + 9) (r * 8 + x) ∧ aI h (a + 9) (r * 8 + x) < 16384) ∧ ∀ d, 0 ≤ d → d < 14 → (bt (aI h (a + 9) (r * 8 + x)) d ↔ fouP S (r = 1) x d)) ∧
  (∀ r x y, 0 ≤ r → r < 2 → 0 ≤ x → x < S 0 → 0 ≤ y → y < S 0 → aI h (a + 10) ((r * 8 + x) * 8 + y) = lft S (r = 1) x y)
theorem PlanRep.fr {T : Nat → Nat → Prop} {h h' : AH} {a : Nat} {S : Int → Int} (P : PlanRep h a S) (F : Fr T h h') (n : ∀ c k, T c k → c < a ∨ a + 10 < c) : PlanRep h' a S := by
  have f : ∀ k, fI h' a k = fI h a k := fun k => F.f a k (fun z => by have := n _ _ z; omega)
  have x : ∀ i, i ≤ 10 → aI h' (a + i) = aI h (a + i) := fun i hi => F.a (a + i) (fun k z => by have := n _ _ z; omega)
  unfold PlanRep
  rw [f 0, f 1, f 2, f 3, f 4, f 5, x 1 (by omega), x 2 (by omega), x 3 (by omega), x 4 (by omega), x 5 (by omega), x 6 (by omega), x 7 (by omega), x 8 (by omega), x 9 (by omega), x 10 (by omega)]
  exact P
theorem v99_0 {X : Cst} {d : Nat} {x0 : Int32} {h : AH} {Q : Post}
  (w : Q (some (.int ((((((((x0 - (((x0.toUInt32 >>> ((1 : Int32).toUInt32 &&& Int32.toUInt32 31)).toInt32) &&& 1431655765)) &&& 858993459) + ((((x0 - (((x0.toUInt32 >>> ((1 : Int32).toUInt32 &&& Int32.toUInt32 31)).toInt32) &&& 1431655765)).toUInt32 >>> ((2 : Int32).toUInt32 &&& Int32.toUInt32 31)).toInt32) &&& 858993459)) + (((((x0 - (((x0.toUInt32 >>> ((1 : Int32).toUInt32 &&& Int32.toUInt32 31)).toInt32) &&& 1431655765)) &&& 858993459) + ((((x0 - (((x0.toUInt32 >>> ((1 : Int32).toUInt32 &&& Int32.toUInt32 31)).toInt32) &&& 1431655765)).toUInt32 >>> ((2 : Int32).toUInt32 &&& Int32.toUInt32 31)).toInt32) &&& 858993459)).toUInt32 >>> ((4 : Int32).toUInt32 &&& Int32.toUInt32 31)).toInt32)) &&& 252645135) + (((((((x0 - (((x0.toUInt32 >>> ((1 : Int32).toUInt32 &&& Int32.toUInt32 31)).toInt32) &&& 1431655765)) &&& 858993459) + ((((x0 - (((x0.toUInt32 >>> ((1 : Int32).toUInt32 &&& Int32.toUInt32 31)).toInt32) &&& 1431655765)).toUInt32 >>> ((2 : Int32).toUInt32 &&& Int32.toUInt32 31)).toInt32) &&& 858993459)) + (((((x0 - (((x0.toUInt32 >>> ((1 : Int32).toUInt32 &&& Int32.toUInt32 31)).toInt32) &&& 1431655765)) &&& 858993459) + ((((x0 - (((x0.toUInt32 >>> ((1 : Int32).toUInt32 &&& Int32.toUInt32 31)).toInt32) &&& 1431655765)).toUInt32 >>> ((2 : Int32).toUInt32 &&& Int32.toUInt32 31)).toInt32) &&& 858993459)).toUInt32 >>> ((4 : Int32).toUInt32 &&& Int32.toUInt32 31)).toInt32)) &&& 252645135).toUInt32 >>> ((8 : Int32).toUInt32 &&& Int32.toUInt32 31)).toInt32)) + ((((((((x0 - (((x0.toUInt32 >>> ((1 : Int32).toUInt32 &&& Int32.toUInt32 31)).toInt32) &&& 1431655765)) &&& 858993459) + ((((x0 - (((x0.toUInt32 >>> ((1 : Int32).toUInt32 &&& Int32.toUInt32 31)).toInt32) &&& 1431655765)).toUInt32 >>> ((2 : Int32).toUInt32 &&& Int32.toUInt32 31)).toInt32) &&& 858993459)) + (((((x0 - (((x0.toUInt32 >>> ((1 : Int32).toUInt32 &&& Int32.toUInt32 31)).toInt32) &&& 1431655765)) &&& 858993459) + ((((x0 - (((x0.toUInt32 >>> ((1 : Int32).toUInt32 &&& Int32.toUInt32 31)).toInt32) &&& 1431655765)).toUInt32 >>> ((2 : Int32).toUInt32 &&& Int32.toUInt32 31)).toInt32) &&& 858993459)).toUInt32 >>> ((4 : Int32).toUInt32 &&& Int32.toUInt32 31)).toInt32)) &&& 252645135) + (((((((x0 - (((x0.toUInt32 >>> ((1 : Int32).toUInt32 &&& Int32.toUInt32 31)).toInt32) &&& 1431655765)) &&& 858993459) + ((((x0 - (((x0.toUInt32 >>> ((1 : Int32).toUInt32 &&& Int32.toUInt32 31)).toInt32) &&& 1431655765)).toUInt32 >>> ((2 : Int32).toUInt32 &&& Int32.toUInt32 31)).toInt32) &&& 858993459)) + (((((x0 - (((x0.toUInt32 >>> ((1 : Int32).toUInt32 &&& Int32.toUInt32 31)).toInt32) &&& 1431655765)) &&& 858993459) + ((((x0 - (((x0.toUInt32 >>> ((1 : Int32).toUInt32 &&& Int32.toUInt32 31)).toInt32) &&& 1431655765)).toUInt32 >>> ((2 : Int32).toUInt32 &&& Int32.toUInt32 31)).toInt32) &&& 858993459)).toUInt32 >>> ((4 : Int32).toUInt32 &&& Int32.toUInt32 31)).toInt32)) &&& 252645135).toUInt32 >>> ((8 : Int32).toUInt32 &&& Int32.toUInt32 31)).toInt32)).toUInt32 >>> ((16 : Int32).toUInt32 &&& Int32.toUInt32 31)).toInt32)) &&& 63))) h) :
    Ex X PG (d + 1) 99 0 [some (.int x0)] [] h Q := wpx_ok (cut := []) 42 d 99 0 _ _ _ _ w
theorem m99 {X : Cst} {d : Nat} {x : Int} {h : AH} {Q : Post} (hd : 1 ≤ d) {k : Nat} (hk : k < 14) (e : x = ((2 ^ k : Nat) : Int) - 1) (w : Q (some (.int (J k))) h) : Ex X PG d 99 0 [some (.int (J x))] [] h Q := by
  obtain ⟨d, rfl⟩ : ∃ e, d = e + 1 := ⟨d - 1, by omega⟩
  subst e
  have q : ∀ z, z = J k → Q (some (.int z)) h := fun z hz => by rw [hz]; exact w
  have : k = 0 ∨ k = 1 ∨ k = 2 ∨ k = 3 ∨ k = 4 ∨ k = 5 ∨ k = 6 ∨ k = 7 ∨ k = 8 ∨ k = 9 ∨ k = 10 ∨ k = 11 ∨ k = 12 ∨ k = 13 := by omega
  rcases this with rfl | rfl | rfl | rfl | rfl | rfl | rfl | rfl | rfl | rfl | rfl | rfl | rfl | rfl <;> exact v99_0 (q _ (by decide +kernel))
noncomputable def lowb (x : Int) : Int := lst fun d => bt x d
theorem lowb_eq {k m : Nat} : lowb ((2 ^ (k + 1) * m + 2 ^ k : Nat) : Int) = k := by
  refine lst_eq (by omega) ?_ fun u hu z => ?_
  · unfold bt
    rw [Int.toNat_natCast, Int.toNat_natCast, low_bit, if_pos (by omega)]
    exact decide_eq_true rfl
  · unfold bt at z
    rw [Int.toNat_natCast, low_bit] at z
    by_cases c : u.toNat < k + 1
    · rw [if_pos c] at z
      have := of_decide_eq_true z
      omega
    · omega
-- OutwardDoors.firstOf(I)I at 0
set_option maxRecDepth 20000 in
set_option maxHeartbeats 4000000 in
theorem r98_0 {X : Cst} {d : Nat} {x0 : Int} {h : AH} {Q : Post} (C_h : Lay h)
  (w : Ex X PG d 99 0 [some (.int (J ((iand x0 (-x0)) - 1)))] [] h (fun v1 h2 => ∃ r3 : Int, (-2147483648 ≤ r3 ∧ r3 < 2147483648) ∧ v1 = some (.int (J r3)) ∧ SH h h2 ∧ Q (some (.int (J r3))) h2)) :
    Ex X PG (d + 1) 98 0 [some (.int (J x0))] [] h Q := by
  refine wpx_ok (cut := []) 8 d 98 0 _ _ _ _ ?_
  show Ex X PG d 99 0 [some (.int (((J x0) &&& (-(J x0))) - (J 1)))] [] h (fun v1 h2 => ∃ r3, v1 = some (.int r3) ∧ Q (some (.int r3)) h2)
  try simp only [aI_wAL, fI_wAL, aL_wA, aL_wF, aI_wA_ne, aI_wF_ne, fI_wA_ne, fI_wF_ne, fI_wF_nk, aL_wAL_ne, J_sameA, J_sameF, aL_same, Nat.add_left_cancel_iff, Nat.add_eq_left, Nat.left_eq_add, not_false_eq_true, Nat.reduceEqDiff, Nat.reduceAdd, J_add, J_sub, J_mul, J_neg, J_and, J_or, J_xor, J_shl, J_shr, J_div, J_i2b, J_i2l, J_l2i, J_lcm, J_max, J_min, J_nab, J_nao, rdA, rdF, rdL, wA_fold, wF_fold, wL_fold, wC_fold]
  refine Ex.mono w (Nat.le_refl _) ?_
  rintro v1 h2 ⟨r3, gr3, rfl, s4, w⟩
  refine ⟨_, rfl, ?_⟩
  have C_h2 := Lay_SH s4 C_h
  try simp only [aI_wAL, fI_wAL, aL_wA, aL_wF, aI_wA_ne, aI_wF_ne, fI_wA_ne, fI_wF_ne, fI_wF_nk, aL_wAL_ne, J_sameA, J_sameF, aL_same, Nat.add_left_cancel_iff, Nat.add_eq_left, Nat.left_eq_add, not_false_eq_true, Nat.reduceEqDiff, Nat.reduceAdd, J_add, J_sub, J_mul, J_neg, J_and, J_or, J_xor, J_shl, J_shr, J_div, J_i2b, J_i2l, J_l2i, J_lcm, J_max, J_min, J_nab, J_nao, rdA, rdF, rdL, wA_fold, wF_fold, wL_fold, wC_fold]
  exact w
theorem m98 {X : Cst} {d : Nat} {x : Int} {h : AH} {Q : Post} (C : Lay h) (hd : 2 ≤ d) (hx : 0 < x ∧ x < 16384) (w : Q (some (.int (J (lowb x)))) h) : Ex X PG d 98 0 [some (.int (J x))] [] h Q := by
  obtain ⟨d, rfl⟩ : ∃ e, d = e + 1 := ⟨d - 1, by omega⟩
  obtain ⟨n, rfl⟩ := Int.eq_ofNat_of_zero_le (show 0 ≤ x by omega)
  obtain ⟨k, m, e⟩ := low_ex n n (Nat.le_refl _) (by omega)
  subst e
  have kl : k < 14 := by
    by_cases q : k < 14
    · exact q
    · have := Nat.pow_le_pow_right (n := 2) (by decide) (show 14 ≤ k by omega)
      omega
  refine r98_0 C ?_
  rw [low_and (by omega)]
  refine m99 (k := k) (by omega) kl rfl ?_
  rw [lowb_eq] at w
  exact ⟨k, by omega, rfl, SH.rf, w⟩
-- OutwardDoors$Plan.hasNight()Z at 0
set_option maxRecDepth 20000 in
set_option maxHeartbeats 4000000 in
theorem r34_0 {X : Cst} {d : Nat} {a : Nat} {h : AH} {Q : Post} (C_h : Lay h) (K_h_0 : PlanAt h a)
  (w : ((fI h a 5 < 0 → Q (some (.int (J 0))) h) ∧ (¬ fI h a 5 < 0 → Q (some (.int (J 1))) h))) :
    Ex X PG (d + 1) 34 0 [some (.ref a)] [] h Q := by
  refine wpx_ok (cut := []) 6 d 34 0 _ _ _ _ ?_
  show hs h a = (0, 2) ∧ (((hF h a 5) < (J 0) → (J 0 = J 0 ∨ J 0 = J 1) ∧ Q (some (.int (J 0))) h) ∧ (¬ ((hF h a 5) < (J 0)) → (J 1 = J 0 ∨ J 1 = J 1) ∧ Q (some (.int (J 1))) h))
  try simp only [aI_wAL, fI_wAL, aL_wA, aL_wF, aI_wA_ne, aI_wF_ne, fI_wA_ne, fI_wF_ne, fI_wF_nk, aL_wAL_ne, J_sameA, J_sameF, aL_same, Nat.add_left_cancel_iff, Nat.add_eq_left, Nat.left_eq_add, not_false_eq_true, Nat.reduceEqDiff, Nat.reduceAdd, J_add, J_sub, J_mul, J_neg, J_and, J_or, J_xor, J_shl, J_shr, J_div, J_i2b, J_i2l, J_l2i, J_lcm, J_max, J_min, J_nab, J_nao, rdA, rdF, rdL, wA_fold, wF_fold, wL_fold, wC_fold]
  refine ⟨(plan_0 K_h_0), ?_⟩
  refine ⟨fun c1 => ?_, fun c1 => ?_⟩
  · have t2 : fI h a 5 < 0 := ((Jlt (rg_toInt _) (by decide)).mp c1)
    replace w := w.1 t2
    exact ⟨(Or.inl (by trivial)), w⟩
  · have t2 : ¬ fI h a 5 < 0 := (fun e => c1 ((Jlt (rg_toInt _) (by decide)).mpr e))
    replace w := w.2 t2
    exact ⟨(Or.inr (by trivial)), w⟩
theorem m34 {X : Cst} {d : Nat} {a : Nat} {h : AH} {Q : Post} (C : Lay h) (K : PlanAt h a) (hd : 1 ≤ d) (w : Q (some (.int (J (bI (0 ≤ fI h a 5))))) h) : Ex X PG d 34 0 [some (.ref a)] [] h Q := by
  obtain ⟨d, rfl⟩ : ∃ e, d = e + 1 := ⟨d - 1, by omega⟩
  refine r34_0 C K ⟨fun c => ?_, fun c => ?_⟩
  · rw [bI_neg (by omega)] at w; exact w
  · rw [bI_pos (by omega)] at w; exact w
-- OutwardDoors$Plan.doorBetween(II)I at 0
set_option maxRecDepth 20000 in
set_option maxHeartbeats 4000000 in
theorem r42_0 {X : Cst} {d : Nat} {a : Nat} {x1 : Int} {x2 : Int} {h : AH} {Q : Post} (C_h : Lay h) (K_h_0 : PlanAt h a)
  (w : (0 ≤ (x1 * 8) + x2 ∧ (x1 * 8) + x2 < 64) ∧ Q (some (.int (J (aI h (a + 7) ((x1 * 8) + x2))))) h) :
    Ex X PG (d + 1) 42 0 [some (.ref a), some (.int (J x1)), some (.int (J x2))] [] h Q := by
  refine wpx_ok (cut := []) 9 d 42 0 _ _ _ _ ?_
  show hs h a = (0, 2) ∧ ∃ q1, hR h a 12 = some q1 ∧ (hs h q1).1 = 1 ∧ ix (((J x1) * (J 8)) + (J x2)) (hs h q1).2 ∧ Q (some (.int (hI h q1 (Int32.toNatClampNeg (((J x1) * (J 8)) + (J x2)))))) h
  try simp only [aI_wAL, fI_wAL, aL_wA, aL_wF, aI_wA_ne, aI_wF_ne, fI_wA_ne, fI_wF_ne, fI_wF_nk, aL_wAL_ne, J_sameA, J_sameF, aL_same, Nat.add_left_cancel_iff, Nat.add_eq_left, Nat.left_eq_add, not_false_eq_true, Nat.reduceEqDiff, Nat.reduceAdd, J_add, J_sub, J_mul, J_neg, J_and, J_or, J_xor, J_shl, J_shr, J_div, J_i2b, J_i2l, J_l2i, J_lcm, J_max, J_min, J_nab, J_nao, rdA, rdF, rdL, wA_fold, wF_fold, wL_fold, wC_fold]
  refine ⟨(plan_0 K_h_0), _, (plan_17 K_h_0), ?_⟩
  obtain ⟨k2, w⟩ := w
  refine ⟨congrArg Prod.fst (plan_7 K_h_0), ixs (plan_7 K_h_0) k2 (by decide), ?_⟩
  exact w
theorem m42 {X : Cst} {d : Nat} {a : Nat} {x y : Int} {h : AH} {Q : Post} (C : Lay h) (K : PlanAt h a) (hd : 1 ≤ d) (c : 0 ≤ x * 8 + y ∧ x * 8 + y < 64) (w : Q (some (.int (J (aI h (a + 7) (x * 8 + y))))) h) : Ex X PG d 42 0 [some (.ref a), some (.int (J x)), some (.int (J y))] [] h Q := by
  obtain ⟨d, rfl⟩ : ∃ e, d = e + 1 := ⟨d - 1, by omega⟩
  exact r42_0 C K ⟨c, w⟩
-- OutwardDoors$Plan.canPass(II)Z at 0
set_option maxRecDepth 20000 in
set_option maxHeartbeats 4000000 in
theorem r52_0 {X : Cst} {d : Nat} {a : Nat} {x1 : Int} {x2 : Int} {h : AH} {Q : Post} (C_h : Lay h) (K_h_0 : PlanAt h a)
  (w : (0 ≤ x1 ∧ x1 < 2) ∧ ((¬ iand (shr (aI h (a + 8) x1) (iand x2 31)) 1 = 1 → Q (some (.int (J 0))) h) ∧ (iand (shr (aI h (a + 8) x1) (iand x2 31)) 1 = 1 → Q (some (.int (J 1))) h))) :
    Ex X PG (d + 1) 52 0 [some (.ref a), some (.int (J x1)), some (.int (J x2))] [] h Q := by
  refine wpx_ok (cut := []) 13 d 52 0 _ _ _ _ ?_
  show hs h a = (0, 2) ∧ ∃ q1, hR h a 13 = some q1 ∧ (hs h q1).1 = 1 ∧ ix (J x1) (hs h q1).2 ∧ ((¬ (((hI h q1 (Int32.toNatClampNeg (J x1))) >>> ((J x2) &&& J 31)) &&& (J 1)) = (J 1) → (J 0 = J 0 ∨ J 0 = J 1) ∧ Q (some (.int (J 0))) h) ∧ (¬ (¬ (((hI h q1 (Int32.toNatClampNeg (J x1))) >>> ((J x2) &&& J 31)) &&& (J 1)) = (J 1)) → (J 1 = J 0 ∨ J 1 = J 1) ∧ Q (some (.int (J 1))) h))
  try simp only [aI_wAL, fI_wAL, aL_wA, aL_wF, aI_wA_ne, aI_wF_ne, fI_wA_ne, fI_wF_ne, fI_wF_nk, aL_wAL_ne, J_sameA, J_sameF, aL_same, Nat.add_left_cancel_iff, Nat.add_eq_left, Nat.left_eq_add, not_false_eq_true, Nat.reduceEqDiff, Nat.reduceAdd, J_add, J_sub, J_mul, J_neg, J_and, J_or, J_xor, J_shl, J_shr, J_div, J_i2b, J_i2l, J_l2i, J_lcm, J_max, J_min, J_nab, J_nao, rdA, rdF, rdL, wA_fold, wF_fold, wL_fold, wC_fold]
  refine ⟨(plan_0 K_h_0), _, (plan_18 K_h_0), ?_⟩
  obtain ⟨k2, w⟩ := w
  refine ⟨congrArg Prod.fst (plan_8 K_h_0), ixs (plan_8 K_h_0) k2 (by decide), ?_⟩
  refine ⟨fun c3 => ?_, fun c3 => ?_⟩
  · have t4 : ¬ iand (shr (aI h (a + 8) x1) (iand x2 31)) 1 = 1 := (fun e => c3 ((Jeq (rg_toInt _) (by decide)).mpr e))
    replace w := w.1 t4
    exact ⟨(Or.inl (by trivial)), w⟩
  · have t4 : iand (shr (aI h (a + 8) x1) (iand x2 31)) 1 = 1 := ((Jeq (rg_toInt _) (by decide)).mp (Classical.byContradiction c3))
    replace w := w.2 t4
    exact ⟨(Or.inr (by trivial)), w⟩
theorem m52 {X : Cst} {d : Nat} {a : Nat} {r x : Int} {S : Int → Int} {h : AH} {Q : Post} (C : Lay h) (K : PlanAt h a) (hd : 1 ≤ d) (P : PlanRep h a S) (hr : 0 ≤ r ∧ r < 2) (hx : 0 ≤ x ∧ x < 14) (w : Q (some (.int (J (bI (x < S 1 ∧ opn S (r = 1) x))))) h) : Ex X PG d 52 0 [some (.ref a), some (.int (J r)), some (.int (J x))] [] h Q := by
  obtain ⟨d, rfl⟩ : ∃ e, d = e + 1 := ⟨d - 1, by omega⟩
  have p := P.2.2.2.2.2.2.1 r hr.1 hr.2
  have q := p.2 x hx.1 hx.2
  have i := isof_iff (s := aI h (a + 8) r) (k := x) (by omega) (by omega)
  refine r52_0 C K ⟨hr, fun c => ?_, fun c => ?_⟩
  · rw [bI_neg (fun z => c (i.mpr (q.mpr z)))] at w; exact w
  · rw [bI_pos (q.mp (i.mp c))] at w; exact w
-- OutwardDoors$Plan.isBeside(III)Z at 0
set_option maxRecDepth 20000 in
set_option maxHeartbeats 4000000 in
theorem r51_0 {X : Cst} {d : Nat} {a : Nat} {x1 : Int} {x2 : Int} {x3 : Int} {S : Int → Int} {h : AH} {Q : Post} (C_h : Lay h) (K_h_0 : PlanAt h a) (hd : 1 ≤ d)
  (w : (0 ≤ x2 * 8 + x3 ∧ x2 * 8 + x3 < 64) ∧ ((aI h (a + 7) (x2 * 8 + x3) = (-1) → Q (some (.int (J 0))) h) ∧ (¬ aI h (a + 7) (x2 * 8 + x3) = (-1) → (PlanRep h a S) ∧ (0 ≤ x1 ∧ x1 < 2) ∧ (0 ≤ (aI h (a + 7) (x2 * 8 + x3)) ∧ (aI h (a + 7) (x2 * 8 + x3)) < 14) ∧ ((¬ ((aI h (a + 7) (x2 * 8 + x3)) < S 1 ∧ opn S (x1 = 1) (aI h (a + 7) (x2 * 8 + x3))) → Q (some (.int (J 0))) h) ∧ (((aI h (a + 7) (x2 * 8 + x3)) < S 1 ∧ opn S (x1 = 1) (aI h (a + 7) (x2 * 8 + x3))) → Q (some (.int (J 1))) h))))) :
    Ex X PG (d + 1) 51 0 [some (.ref a), some (.int (J x1)), some (.int (J x2)), some (.int (J x3)), none] [] h Q := by
  refine wpx_ok (cut := []) 16 d 51 0 _ _ _ _ ?_
  show hs h a = (0, 2) ∧ Ex X PG d 42 0 [some (.ref a), some (.int (J x2)), some (.int (J x3))] [] h (fun v1 h2 => ∃ r3, v1 = some (.int r3) ∧ ((r3 = (J (-1)) → (J 0 = J 0 ∨ J 0 = J 1) ∧ Q (some (.int (J 0))) h2) ∧ (¬ (r3 = (J (-1))) → hs h2 a = (0, 2) ∧ Ex X PG d 52 0 [some (.ref a), some (.int (J x1)), some (.int r3)] [] h2 (fun v7 h8 => ∃ r9, v7 = some (.int r9) ∧ ((r9 = (J 0) → (J 0 = J 0 ∨ J 0 = J 1) ∧ Q (some (.int (J 0))) h8) ∧ (¬ (r9 = (J 0)) → (J 1 = J 0 ∨ J 1 = J 1) ∧ Q (some (.int (J 1))) h8))))))
  try simp only [aI_wAL, fI_wAL, aL_wA, aL_wF, aI_wA_ne, aI_wF_ne, fI_wA_ne, fI_wF_ne, fI_wF_nk, aL_wAL_ne, J_sameA, J_sameF, aL_same, Nat.add_left_cancel_iff, Nat.add_eq_left, Nat.left_eq_add, not_false_eq_true, Nat.reduceEqDiff, Nat.reduceAdd, J_add, J_sub, J_mul, J_neg, J_and, J_or, J_xor, J_shl, J_shr, J_div, J_i2b, J_i2l, J_l2i, J_lcm, J_max, J_min, J_nab, J_nao, rdA, rdF, rdL, wA_fold, wF_fold, wL_fold, wC_fold]
  refine ⟨(plan_0 K_h_0), ?_⟩
  obtain ⟨k4, w⟩ := w
  refine m42 (h := h) (a := a) (x := x2) (y := x3) C_h K_h_0 (by omega) k4 ?_
  refine ⟨_, rfl, ?_⟩
  try simp only [aI_wAL, fI_wAL, aL_wA, aL_wF, aI_wA_ne, aI_wF_ne, fI_wA_ne, fI_wF_ne, fI_wF_nk, aL_wAL_ne, J_sameA, J_sameF, aL_same, Nat.add_left_cancel_iff, Nat.add_eq_left, Nat.left_eq_add, not_false_eq_true, Nat.reduceEqDiff, Nat.reduceAdd, J_add, J_sub, J_mul, J_neg, J_and, J_or, J_xor, J_shl, J_shr, J_div, J_i2b, J_i2l, J_l2i, J_lcm, J_max, J_min, J_nab, J_nao, rdA, rdF, rdL, wA_fold, wF_fold, wL_fold, wC_fold]
  refine ⟨fun c5 => ?_, fun c5 => ?_⟩
  · have t6 : aI h (a + 7) (x2 * 8 + x3) = (-1) := ((Jeq (rg_toInt _) (by decide)).mp c5)
    replace w := w.1 t6
    exact ⟨(Or.inl (by trivial)), w⟩
  · have t6 : ¬ aI h (a + 7) (x2 * 8 + x3) = (-1) := (fun e => c5 ((Jeq (rg_toInt _) (by decide)).mpr e))
    replace w := w.2 t6
    refine ⟨(plan_0 K_h_0), ?_⟩
    obtain ⟨k10, w⟩ := w
    obtain ⟨k11, w⟩ := w
    obtain ⟨k12, w⟩ := w
    refine m52 (h := h) (a := a) (r := x1) (x := (aI h (a + 7) (x2 * 8 + x3))) (S := S) C_h K_h_0 (by omega) k10 k11 k12 ?_
    refine ⟨_, rfl, ?_⟩
    try simp only [aI_wAL, fI_wAL, aL_wA, aL_wF, aI_wA_ne, aI_wF_ne, fI_wA_ne, fI_wF_ne, fI_wF_nk, aL_wAL_ne, J_sameA, J_sameF, aL_same, Nat.add_left_cancel_iff, Nat.add_eq_left, Nat.left_eq_add, not_false_eq_true, Nat.reduceEqDiff, Nat.reduceAdd, J_add, J_sub, J_mul, J_neg, J_and, J_or, J_xor, J_shl, J_shr, J_div, J_i2b, J_i2l, J_l2i, J_lcm, J_max, J_min, J_nab, J_nao, rdA, rdF, rdL, wA_fold, wF_fold, wL_fold, wC_fold]
    refine ⟨fun c13 => ?_, fun c13 => ?_⟩
    · have t14 : ¬ ((aI h (a + 7) (x2 * 8 + x3)) < S 1 ∧ opn S (x1 = 1) (aI h (a + 7) (x2 * 8 + x3))) := ((bI0 _).mp c13)
      replace w := w.1 t14
      exact ⟨(Or.inl (by trivial)), w⟩
    · have t14 : ((aI h (a + 7) (x2 * 8 + x3)) < S 1 ∧ opn S (x1 = 1) (aI h (a + 7) (x2 * 8 + x3))) := (Classical.byContradiction fun n => c13 ((bI0 _).mpr n))
      replace w := w.2 t14
      exact ⟨(Or.inr (by trivial)), w⟩
theorem m51 {X : Cst} {d : Nat} {a : Nat} {r x y : Int} {S : Int → Int} {h : AH} {Q : Post} (C : Lay h) (K : PlanAt h a) (hd : 2 ≤ d) (P : PlanRep h a S) (W : WF 999 S) (hr : 0 ≤ r ∧ r < 2) (hx : 0 ≤ x ∧ x < 8) (hy : 0 ≤ y ∧ y < 8) (w : Q (some (.int (J (bI (adj S (r = 1) x y))))) h) : Ex X PG d 51 0 [some (.ref a), some (.int (J r)), some (.int (J x)), some (.int (J y)), none] [] h Q := by
  obtain ⟨d, rfl⟩ : ∃ e, d = e + 1 := ⟨d - 1, by omega⟩
  have b := W.1
  unfold WFb at b
  have e := P.2.2.2.2.2.1 x y hx.1 hx.2 hy.1 hy.2
  have db := lst_b (P := dbtP S x y) (n := S 1) (by omega) (fun v z => z.1)
  have db : -1 ≤ dbt S x y ∧ dbt S x y < S 1 := db
  refine r51_0 C K (S := S) (by omega) ?_
  rw [e]
  refine ⟨by omega, fun c => ?_, fun c => ⟨P, hr, by omega, fun c2 => ?_, fun c2 => ?_⟩⟩
  · rw [bI_neg (fun z => ((dbt_adj W).mp z).1 c)] at w; exact w
  · rw [bI_neg (fun z => c2 ⟨db.2, ((dbt_adj W).mp z).2⟩)] at w; exact w
  · rw [bI_pos ((dbt_adj W).mpr ⟨c, c2.2⟩)] at w; exact w
-- OutwardDoors$Plan.leftIndex(III)I at 0
set_option maxRecDepth 20000 in
set_option maxHeartbeats 4000000 in
theorem r53_0 {X : Cst} {d : Nat} {x0 : Int} {x1 : Int} {x2 : Int} {h : AH} {Q : Post} (C_h : Lay h)
  (w : Q (some (.int (J ((((x0 * 8) + x1) * 8) + x2)))) h) :
    Ex X PG (d + 1) 53 0 [some (.int (J x0)), some (.int (J x1)), some (.int (J x2))] [] h Q := by
  refine wpx_ok (cut := []) 10 d 53 0 _ _ _ _ ?_
  show Q (some (.int (((((J x0) * (J 8)) + (J x1)) * (J 8)) + (J x2)))) h
  try simp only [aI_wAL, fI_wAL, aL_wA, aL_wF, aI_wA_ne, aI_wF_ne, fI_wA_ne, fI_wF_ne, fI_wF_nk, aL_wAL_ne, J_sameA, J_sameF, aL_same, Nat.add_left_cancel_iff, Nat.add_eq_left, Nat.left_eq_add, not_false_eq_true, Nat.reduceEqDiff, Nat.reduceAdd, J_add, J_sub, J_mul, J_neg, J_and, J_or, J_xor, J_shl, J_shr, J_div, J_i2b, J_i2l, J_l2i, J_lcm, J_max, J_min, J_nab, J_nao, rdA, rdF, rdL, wA_fold, wF_fold, wL_fold, wC_fold]
  exact w
theorem m53 {X : Cst} {d : Nat} {r x y : Int} {h : AH} {Q : Post} (C : Lay h) (hd : 1 ≤ d) (w : Q (some (.int (J ((r * 8 + x) * 8 + y)))) h) : Ex X PG d 53 0 [some (.int (J r)), some (.int (J x)), some (.int (J y))] [] h Q := by
  obtain ⟨d, rfl⟩ : ∃ e, d = e + 1 := ⟨d - 1, by omega⟩
  exact r53_0 C w
-- OutwardDoors$Plan.left(III)I at 0
set_option maxRecDepth 20000 in
set_option maxHeartbeats 4000000 in
theorem r54_0 {X : Cst} {d : Nat} {a : Nat} {x1 : Int} {x2 : Int} {x3 : Int} {h : AH} {Q : Post} (C_h : Lay h) (K_h_0 : PlanAt h a) (hd : 1 ≤ d)
  (w : (0 ≤ (x1 * 8 + x2) * 8 + x3 ∧ (x1 * 8 + x2) * 8 + x3 < 128) ∧ Q (some (.int (J (aI h (a + 10) ((x1 * 8 + x2) * 8 + x3))))) h) :
    Ex X PG (d + 1) 54 0 [some (.ref a), some (.int (J x1)), some (.int (J x2)), some (.int (J x3))] [] h Q := by
  refine wpx_ok (cut := []) 8 d 54 0 _ _ _ _ ?_
  show hs h a = (0, 2) ∧ ∃ q1, hR h a 15 = some q1 ∧ Ex X PG d 53 0 [some (.int (J x1)), some (.int (J x2)), some (.int (J x3))] [] h (fun v2 h3 => ∃ r4, v2 = some (.int r4) ∧ (hs h3 q1).1 = 1 ∧ ix r4 (hs h3 q1).2 ∧ Q (some (.int (hI h3 q1 (Int32.toNatClampNeg r4)))) h3)
  try simp only [aI_wAL, fI_wAL, aL_wA, aL_wF, aI_wA_ne, aI_wF_ne, fI_wA_ne, fI_wF_ne, fI_wF_nk, aL_wAL_ne, J_sameA, J_sameF, aL_same, Nat.add_left_cancel_iff, Nat.add_eq_left, Nat.left_eq_add, not_false_eq_true, Nat.reduceEqDiff, Nat.reduceAdd, J_add, J_sub, J_mul, J_neg, J_and, J_or, J_xor, J_shl, J_shr, J_div, J_i2b, J_i2l, J_l2i, J_lcm, J_max, J_min, J_nab, J_nao, rdA, rdF, rdL, wA_fold, wF_fold, wL_fold, wC_fold]
  refine ⟨(plan_0 K_h_0), _, (plan_20 K_h_0), ?_⟩
  refine m53 (h := h) (r := x1) (x := x2) (y := x3) C_h (by omega)  ?_
  refine ⟨_, rfl, ?_⟩
  try simp only [aI_wAL, fI_wAL, aL_wA, aL_wF, aI_wA_ne, aI_wF_ne, fI_wA_ne, fI_wF_ne, fI_wF_nk, aL_wAL_ne, J_sameA, J_sameF, aL_same, Nat.add_left_cancel_iff, Nat.add_eq_left, Nat.left_eq_add, not_false_eq_true, Nat.reduceEqDiff, Nat.reduceAdd, J_add, J_sub, J_mul, J_neg, J_and, J_or, J_xor, J_shl, J_shr, J_div, J_i2b, J_i2l, J_l2i, J_lcm, J_max, J_min, J_nab, J_nao, rdA, rdF, rdL, wA_fold, wF_fold, wL_fold, wC_fold]
  obtain ⟨k5, w⟩ := w
  refine ⟨congrArg Prod.fst (plan_10 K_h_0), ixs (plan_10 K_h_0) k5 (by decide), ?_⟩
  exact w
theorem m54 {X : Cst} {d : Nat} {a : Nat} {r x y : Int} {h : AH} {Q : Post} (C : Lay h) (K : PlanAt h a) (hd : 2 ≤ d) (c : 0 ≤ (r * 8 + x) * 8 + y ∧ (r * 8 + x) * 8 + y < 128) (w : Q (some (.int (J (aI h (a + 10) ((r * 8 + x) * 8 + y))))) h) : Ex X PG d 54 0 [some (.ref a), some (.int (J r)), some (.int (J x)), some (.int (J y))] [] h Q := by
  obtain ⟨d, rfl⟩ : ∃ e, d = e + 1 := ⟨d - 1, by omega⟩
  exact r54_0 C K (by omega) ⟨c, w⟩
-- OutwardDoors$Plan.doorsOut(II)I at 0
set_option maxRecDepth 20000 in
set_option maxHeartbeats 4000000 in
theorem r97_0 {X : Cst} {d : Nat} {a : Nat} {x1 : Int} {x2 : Int} {h : AH} {Q : Post} (C_h : Lay h) (K_h_0 : PlanAt h a)
  (w : (0 ≤ (x1 * 8) + x2 ∧ (x1 * 8) + x2 < 16) ∧ Q (some (.int (J (aI h (a + 9) ((x1 * 8) + x2))))) h) :
    Ex X PG (d + 1) 97 0 [some (.ref a), some (.int (J x1)), some (.int (J x2))] [] h Q := by
  refine wpx_ok (cut := []) 9 d 97 0 _ _ _ _ ?_
  show hs h a = (0, 2) ∧ ∃ q1, hR h a 14 = some q1 ∧ (hs h q1).1 = 1 ∧ ix (((J x1) * (J 8)) + (J x2)) (hs h q1).2 ∧ Q (some (.int (hI h q1 (Int32.toNatClampNeg (((J x1) * (J 8)) + (J x2)))))) h
  try simp only [aI_wAL, fI_wAL, aL_wA, aL_wF, aI_wA_ne, aI_wF_ne, fI_wA_ne, fI_wF_ne, fI_wF_nk, aL_wAL_ne, J_sameA, J_sameF, aL_same, Nat.add_left_cancel_iff, Nat.add_eq_left, Nat.left_eq_add, not_false_eq_true, Nat.reduceEqDiff, Nat.reduceAdd, J_add, J_sub, J_mul, J_neg, J_and, J_or, J_xor, J_shl, J_shr, J_div, J_i2b, J_i2l, J_l2i, J_lcm, J_max, J_min, J_nab, J_nao, rdA, rdF, rdL, wA_fold, wF_fold, wL_fold, wC_fold]
  refine ⟨(plan_0 K_h_0), _, (plan_19 K_h_0), ?_⟩
  obtain ⟨k2, w⟩ := w
  refine ⟨congrArg Prod.fst (plan_9 K_h_0), ixs (plan_9 K_h_0) k2 (by decide), ?_⟩
  exact w
theorem m97 {X : Cst} {d : Nat} {a : Nat} {r x : Int} {h : AH} {Q : Post} (C : Lay h) (K : PlanAt h a) (hd : 1 ≤ d) (c : 0 ≤ r * 8 + x ∧ r * 8 + x < 16) (w : Q (some (.int (J (aI h (a + 9) (r * 8 + x))))) h) : Ex X PG d 97 0 [some (.ref a), some (.int (J r)), some (.int (J x))] [] h Q := by
  obtain ⟨d, rfl⟩ : ∃ e, d = e + 1 := ⟨d - 1, by omega⟩
  exact r97_0 C K ⟨c, w⟩
-- OutwardDoors$Plan.hour(I)I at 0
set_option maxRecDepth 20000 in
set_option maxHeartbeats 4000000 in
theorem r77_0 {X : Cst} {d : Nat} {a : Nat} {x1 : Int} {h : AH} {Q : Post} (C_h : Lay h) (K_h_0 : PlanAt h a) (hd : 1 ≤ d)
  (w : ((¬ (0 ≤ fI h a 5) → Q (some (.int (J 0))) h) ∧ ((0 ≤ fI h a 5) → (-2147483648 ≤ x1 - idv x1 24 * 24 ∧ x1 - idv x1 24 * 24 < 2147483648) ∧ ((x1 - idv x1 24 * 24 < fI h a 4 → Q (some (.int (J 0))) h) ∧ (¬ x1 - idv x1 24 * 24 < fI h a 4 → ((fI h a 5 < x1 - idv x1 24 * 24 → Q (some (.int (J 0))) h) ∧ (¬ fI h a 5 < x1 - idv x1 24 * 24 → Q (some (.int (J 1))) h))))))) :
    Ex X PG (d + 1) 77 0 [some (.ref a), some (.int (J x1)), none] [] h Q := by
  refine wpx_ok (cut := []) 18 d 77 0 _ _ _ _ ?_
  show ¬ (J 24) = J 0 ∧ hs h a = (0, 2) ∧ Ex X PG d 34 0 [some (.ref a)] [] h (fun v1 h2 => ∃ r3, v1 = some (.int r3) ∧ ((r3 = (J 0) → Q (some (.int (J 0))) h2) ∧ (¬ (r3 = (J 0)) → hs h2 a = (0, 2) ∧ ((((J x1) - (J x1) / (J 24) * (J 24)) < (hF h2 a 4) → Q (some (.int (J 0))) h2) ∧ (¬ (((J x1) - (J x1) / (J 24) * (J 24)) < (hF h2 a 4)) → hs h2 a = (0, 2) ∧ (((hF h2 a 5) < ((J x1) - (J x1) / (J 24) * (J 24)) → Q (some (.int (J 0))) h2) ∧ (¬ ((hF h2 a 5) < ((J x1) - (J x1) / (J 24) * (J 24))) → Q (some (.int (J 1))) h2)))))))
  try simp only [aI_wAL, fI_wAL, aL_wA, aL_wF, aI_wA_ne, aI_wF_ne, fI_wA_ne, fI_wF_ne, fI_wF_nk, aL_wAL_ne, J_sameA, J_sameF, aL_same, Nat.add_left_cancel_iff, Nat.add_eq_left, Nat.left_eq_add, not_false_eq_true, Nat.reduceEqDiff, Nat.reduceAdd, J_add, J_sub, J_mul, J_neg, J_and, J_or, J_xor, J_shl, J_shr, J_div, J_i2b, J_i2l, J_l2i, J_lcm, J_max, J_min, J_nab, J_nao, rdA, rdF, rdL, wA_fold, wF_fold, wL_fold, wC_fold]
  refine ⟨by decide, ?_⟩
  refine ⟨(plan_0 K_h_0), ?_⟩
  refine m34 (h := h) (a := a) C_h K_h_0 (by omega)  ?_
  refine ⟨_, rfl, ?_⟩
  try simp only [aI_wAL, fI_wAL, aL_wA, aL_wF, aI_wA_ne, aI_wF_ne, fI_wA_ne, fI_wF_ne, fI_wF_nk, aL_wAL_ne, J_sameA, J_sameF, aL_same, Nat.add_left_cancel_iff, Nat.add_eq_left, Nat.left_eq_add, not_false_eq_true, Nat.reduceEqDiff, Nat.reduceAdd, J_add, J_sub, J_mul, J_neg, J_and, J_or, J_xor, J_shl, J_shr, J_div, J_i2b, J_i2l, J_l2i, J_lcm, J_max, J_min, J_nab, J_nao, rdA, rdF, rdL, wA_fold, wF_fold, wL_fold, wC_fold]
  refine ⟨fun c4 => ?_, fun c4 => ?_⟩
  · have t5 : ¬ (0 ≤ fI h a 5) := ((bI0 _).mp c4)
    replace w := w.1 t5
    exact w
  · have t5 : (0 ≤ fI h a 5) := (Classical.byContradiction fun n => c4 ((bI0 _).mpr n))
    replace w := w.2 t5
    refine ⟨(plan_0 K_h_0), ?_⟩
    obtain ⟨k8, w⟩ := w
    refine ⟨fun c6 => ?_, fun c6 => ?_⟩
    · have t7 : x1 - idv x1 24 * 24 < fI h a 4 := ((Jlt k8 (rg_toInt _)).mp c6)
      replace w := w.1 t7
      exact w
    · have t7 : ¬ x1 - idv x1 24 * 24 < fI h a 4 := (fun e => c6 ((Jlt k8 (rg_toInt _)).mpr e))
      replace w := w.2 t7
      refine ⟨(plan_0 K_h_0), ?_⟩
      refine ⟨fun c9 => ?_, fun c9 => ?_⟩
      · have t10 : fI h a 5 < x1 - idv x1 24 * 24 := ((Jlt (rg_toInt _) k8).mp c9)
        replace w := w.1 t10
        exact w
      · have t10 : ¬ fI h a 5 < x1 - idv x1 24 * 24 := (fun e => c9 ((Jlt (rg_toInt _) k8).mpr e))
        replace w := w.2 t10
        exact w
theorem m77 {X : Cst} {d : Nat} {a : Nat} {m : Int} {S : Int → Int} {h : AH} {Q : Post} (C : Lay h) (K : PlanAt h a) (hd : 2 ≤ d) (P : PlanRep h a S) (hm : 0 ≤ m ∧ m < 2147483648) (w : Q (some (.int (J (bI (nightM S m))))) h) : Ex X PG d 77 0 [some (.ref a), some (.int (J m)), none] [] h Q := by
  obtain ⟨d, rfl⟩ : ∃ e, d = e + 1 := ⟨d - 1, by omega⟩
  have q := P.1.2.2.2 m hm.1
  refine r77_0 C K (by omega) ?_
  rw [rem_nn hm (by omega)]
  refine ⟨fun c => ?_, fun c => ⟨by omega, fun c2 => ?_, fun c2 => ⟨fun c3 => ?_, fun c3 => ?_⟩⟩⟩
  · rw [bI_neg (fun z => c (q.mpr z).1)] at w; exact w
  · rw [bI_neg (fun z => by have := q.mpr z; omega)] at w; exact w
  · rw [bI_neg (fun z => by have := q.mpr z; omega)] at w; exact w
  · rw [bI_pos (q.mp ⟨c, by omega, by omega⟩)] at w; exact w
