/-! THE CLASS: a castle is finished: the doors that are open. -/
def BV (i v : Int) (P : Int → Prop) : Prop := (0 ≤ v ∧ v < 16384) ∧ ∀ d : Int, 0 ≤ d → d < 14 → (bt v d ↔ d < i ∧ P d)
theorem BV.z {P : Int → Prop} : BV 0 0 P := by
  refine ⟨by omega, fun d d0 d1 => ⟨fun z => ?_, fun z => by omega⟩⟩
  unfold bt at z
  rw [show (0 : Int).toNat = 0 from rfl, Nat.zero_testBit] at z
  exact absurd z (by decide)
theorem BV.off {i v : Int} {P : Int → Prop} (B : BV i v P) (p : ¬ P i) : BV (i + 1) v P := by
  refine ⟨B.1, fun d d0 d1 => ?_⟩
  rw [B.2 d d0 d1]
  constructor
  · intro z; exact ⟨by omega, z.2⟩
  · intro z
    refine ⟨?_, z.2⟩
    by_cases c : d = i
    · rw [c] at z; exact absurd z.2 p
    · omega
theorem BV.on {i v : Int} {P : Int → Prop} (B : BV i v P) (hi : 0 ≤ i ∧ i < 14) (p : P i) : BV (i + 1) (ior v (shl 1 (iand i 31))) P := by
  have b1 := B.1
  obtain ⟨m, hm⟩ := Int.eq_ofNat_of_zero_le b1.1
  have pp : 2 ^ i.toNat < 16384 := Nat.pow_lt_pow_right (by decide : 1 < 2) (show i.toNat < 14 by omega)
  have m4 : m < 2 ^ 14 := by omega
  have ol : m ||| 2 ^ i.toNat < 2 ^ 14 := Nat.or_lt_two_pow m4 pp
  have B2 := B.2
  rw [hm] at B2 ⊢
  rw [shl_1 (by omega), ior_nat (by omega) (by omega)]
  refine ⟨⟨by omega, by omega⟩, fun e e0 e1 => ?_⟩
  have b := B2 e e0 e1
  unfold bt at b ⊢
  rw [Int.toNat_natCast] at b ⊢
  rw [Nat.testBit_or, Bool.or_eq_true, Nat.testBit_two_pow, b]
  constructor
  · intro z
    rcases z with z | z
    · exact ⟨by omega, z.2⟩
    · have := of_decide_eq_true z
      have q : e = i := by omega
      rw [q]; exact ⟨by omega, p⟩
  · intro z
    by_cases q : e = i
    · exact Or.inr (decide_eq_true (by omega))
    · exact Or.inl ⟨by omega, z.2⟩
theorem BV.iff {i v : Int} {P U : Int → Prop} (B : BV i v P) (e : ∀ d : Int, 0 ≤ d → d < i → (P d ↔ U d)) : BV i v U :=
  ⟨B.1, fun d d0 d1 => by rw [B.2 d d0 d1]; exact ⟨fun z => ⟨z.1, (e d d0 z.1).mp z.2⟩, fun z => ⟨z.1, (e d d0 z.1).mpr z.2⟩⟩⟩
theorem isof_01 {s k : Int} (g : 0 ≤ s ∧ s < 2147483648) (h : 0 ≤ k ∧ k < 16) : iand (shr s (iand k 31)) 1 = 0 ∨ iand (shr s (iand k 31)) 1 = 1 := by
  obtain ⟨n, rfl⟩ := Int.eq_ofNat_of_zero_le g.1
  rw [shr_nat (by omega) h]
  have le := Nat.shiftRight_le n k.toNat
  generalize n >>> k.toNat = m at *
  exact iand_1b (by omega)
-- java/util/Arrays.rangeCheck(III)V at 0
set_option maxRecDepth 20000 in
set_option maxHeartbeats 4000000 in
theorem r49_0 {X : Cst} {d : Nat} {x0 : Int} {x1 : Int} {x2 : Int} {h : AH} {Q : Post} (C_h : Lay h)
  (w : (-2147483648 ≤ x1 ∧ x1 < 2147483648) ∧ (-2147483648 ≤ x2 ∧ x2 < 2147483648) ∧ ((x1 ≤ x2 → ((0 ≤ x1 → (-2147483648 ≤ x0 ∧ x0 < 2147483648) ∧ ((x2 ≤ x0 → Q none h) ∧ (¬ x2 ≤ x0 → False))) ∧ (¬ 0 ≤ x1 → False))) ∧ (¬ x1 ≤ x2 → False))) :
    Ex X PG (d + 1) 49 0 [some (.int (J x0)), some (.int (J x1)), some (.int (J x2))] [] h Q := by
  refine wpx_ok (cut := []) 9 d 49 0 _ _ _ _ ?_
  show (((J x1) ≤ (J x2) → (((J 0) ≤ (J x1) → (((J x2) ≤ (J x0) → Q none h) ∧ (¬ ((J x2) ≤ (J x0)) → False))) ∧ (¬ ((J 0) ≤ (J x1)) → False))) ∧ (¬ ((J x1) ≤ (J x2)) → False))
  try simp only [aI_wAL, fI_wAL, aL_wA, aL_wF, aI_wA_ne, aI_wF_ne, fI_wA_ne, fI_wF_ne, fI_wF_nk, aL_wAL_ne, J_sameA, J_sameF, aL_same, Nat.add_left_cancel_iff, Nat.add_eq_left, Nat.left_eq_add, not_false_eq_true, Nat.reduceEqDiff, Nat.reduceAdd, J_add, J_sub, J_mul, J_neg, J_and, J_or, J_xor, J_shl, J_shr, J_div, J_i2b, J_i2l, J_l2i, J_lcm, J_max, J_min, J_nab, J_nao, rdA, rdF, rdL, wA_fold, wF_fold, wL_fold, wC_fold]
  obtain ⟨k3, w⟩ := w
  obtain ⟨k4, w⟩ := w
  refine ⟨fun c1 => ?_, fun c1 => ?_⟩
  · have t2 : x1 ≤ x2 := ((Jle k3 k4).mp c1)
    replace w := w.1 t2
    refine ⟨fun c5 => ?_, fun c5 => ?_⟩
    · have t6 : 0 ≤ x1 := ((Jle (by decide) k3).mp c5)
      replace w := w.1 t6
      obtain ⟨k9, w⟩ := w
      refine ⟨fun c7 => ?_, fun c7 => ?_⟩
      · have t8 : x2 ≤ x0 := ((Jle k4 k9).mp c7)
        replace w := w.1 t8
        exact w
      · have t8 : ¬ x2 ≤ x0 := (fun e => c7 ((Jle k4 k9).mpr e))
        replace w := w.2 t8
        exact w
    · have t6 : ¬ 0 ≤ x1 := (fun e => c5 ((Jle (by decide) k3).mpr e))
      replace w := w.2 t6
      exact w
  · have t2 : ¬ x1 ≤ x2 := (fun e => c1 ((Jle k3 k4).mpr e))
    replace w := w.2 t2
    exact w
theorem m49 {X : Cst} {d : Nat} {n f t : Int} {h : AH} {Q : Post} (C : Lay h) (hd : 1 ≤ d) (hf : 0 ≤ f ∧ f ≤ t ∧ t ≤ n ∧ n < 2147483648) (k : Q none h) : Ex X PG d 49 0 [some (.int (J n)), some (.int (J f)), some (.int (J t))] [] h Q := by
  obtain ⟨d, rfl⟩ : ∃ e, d = e + 1 := ⟨d - 1, by omega⟩
  exact r49_0 C ⟨by omega, by omega, fun _ => ⟨fun _ => ⟨by omega, fun _ => k, fun z => z (by omega)⟩, fun z => z (by omega)⟩, fun z => z (by omega)⟩
-- java/util/Arrays.fill([IIII)V at 0
set_option maxRecDepth 20000 in
set_option maxHeartbeats 4000000 in
theorem r48_0 {X : Cst} {d : Nat} {c : Nat} {x1 : Int} {x2 : Int} {x3 : Int} {h : AH} {Q : Post} (C_h : Lay h) {n : Nat} (S_h : hs h c = (1, n)) (hn : n ≤ 2147483648)
  (w : Ex X PG d 49 0 [some (.int (J (n : Int))), some (.int (J x1)), some (.int (J x2))] [] h (fun v1 h2 => v1 = none ∧ SH h h2 ∧ Ex X PG (d + 1) 48 10 [some (.ref c), some (.int (J x1)), some (.int (J x2)), some (.int (J x3)), some (.int (J x1))] [] h2 Q)) :
    Ex X PG (d + 1) 48 0 [some (.ref c), some (.int (J x1)), some (.int (J x2)), some (.int (J x3)), none] [] h Q := by
  refine wpx_ok (cut := [10]) 7 d 48 0 _ _ _ _ ?_
  show 1 ≤ (hs h c).1 ∧ Ex X PG d 49 0 [some (.int (nI (hs h c).2)), some (.int (J x1)), some (.int (J x2))] [] h (fun v1 h2 => v1 = none ∧ Ex X PG (d + 1) 48 10 [some (.ref c), some (.int (J x1)), some (.int (J x2)), some (.int (J x3)), some (.int (J x1))] [] h2 Q)
  try simp only [aI_wAL, fI_wAL, aL_wA, aL_wF, aI_wA_ne, aI_wF_ne, fI_wA_ne, fI_wF_ne, fI_wF_nk, aL_wAL_ne, J_sameA, J_sameF, aL_same, Nat.add_left_cancel_iff, Nat.add_eq_left, Nat.left_eq_add, not_false_eq_true, Nat.reduceEqDiff, Nat.reduceAdd, J_add, J_sub, J_mul, J_neg, J_and, J_or, J_xor, J_shl, J_shr, J_div, J_i2b, J_i2l, J_l2i, J_lcm, J_max, J_min, J_nab, J_nao, rdA, rdF, rdL, wA_fold, wF_fold, wL_fold, wC_fold]
  refine ⟨by rw [S_h]; show 1 ≤ 1; decide, ?_⟩
  rw [show nI (hs h c).2 = J (n : Int) from by rw [S_h]; exact J_nI _]
  try simp only [aI_wAL, fI_wAL, aL_wA, aL_wF, aI_wA_ne, aI_wF_ne, fI_wA_ne, fI_wF_ne, fI_wF_nk, aL_wAL_ne, J_sameA, J_sameF, aL_same, Nat.add_left_cancel_iff, Nat.add_eq_left, Nat.left_eq_add, not_false_eq_true, Nat.reduceEqDiff, Nat.reduceAdd, J_add, J_sub, J_mul, J_neg, J_and, J_or, J_xor, J_shl, J_shr, J_div, J_i2b, J_i2l, J_l2i, J_lcm, J_max, J_min, J_nab, J_nao, rdA, rdF, rdL, wA_fold, wF_fold, wL_fold, wC_fold]
  refine Ex.mono w (Nat.le_refl _) ?_
  rintro v1 h2 ⟨rfl, s3, w⟩
  refine ⟨rfl, ?_⟩
  have C_h2 := Lay_SH s3 C_h
  try simp only [aI_wAL, fI_wAL, aL_wA, aL_wF, aI_wA_ne, aI_wF_ne, fI_wA_ne, fI_wF_ne, fI_wF_nk, aL_wAL_ne, J_sameA, J_sameF, aL_same, Nat.add_left_cancel_iff, Nat.add_eq_left, Nat.left_eq_add, not_false_eq_true, Nat.reduceEqDiff, Nat.reduceAdd, J_add, J_sub, J_mul, J_neg, J_and, J_or, J_xor, J_shl, J_shr, J_div, J_i2b, J_i2l, J_l2i, J_lcm, J_max, J_min, J_nab, J_nao, rdA, rdF, rdL, wA_fold, wF_fold, wL_fold, wC_fold]
  exact w
-- java/util/Arrays.fill([IIII)V at 10
set_option maxRecDepth 20000 in
set_option maxHeartbeats 4000000 in
theorem r48_10 {X : Cst} {d : Nat} {c : Nat} {x1 : Int} {x2 : Int} {x3 : Int} {x4 : Int} {h : AH} {Q : Post} (C_h : Lay h) {n : Nat} (S_h : hs h c = (1, n)) (hn : n ≤ 2147483648)
  (w : (-2147483648 ≤ x4 ∧ x4 < 2147483648) ∧ (-2147483648 ≤ x2 ∧ x2 < 2147483648) ∧ ((x2 ≤ x4 → Q none h) ∧ (¬ x2 ≤ x4 → (0 ≤ x4 ∧ x4 < n) ∧ Ex X PG (d + 1) 48 10 [some (.ref c), some (.int (J x1)), some (.int (J x2)), some (.int (J x3)), some (.int (J (x4 + 1)))] [] (wA h c x4 x3) Q))) :
    Ex X PG (d + 1) 48 10 [some (.ref c), some (.int (J x1)), some (.int (J x2)), some (.int (J x3)), some (.int (J x4))] [] h Q := by
  refine wpx_ok (cut := [10]) 9 d 48 10 _ _ _ _ ?_
  show (((J x2) ≤ (J x4) → Q none h) ∧ (¬ ((J x2) ≤ (J x4)) → (hs h c).1 = 1 ∧ ix (J x4) (hs h c).2 ∧ Ex X PG (d + 1) 48 10 [some (.ref c), some (.int (J x1)), some (.int (J x2)), some (.int (J x3)), some (.int ((J x4) + (J 1)))] [] (wI h c (Int32.toNatClampNeg (J x4)) (J x3)) Q))
  try simp only [aI_wAL, fI_wAL, aL_wA, aL_wF, aI_wA_ne, aI_wF_ne, fI_wA_ne, fI_wF_ne, fI_wF_nk, aL_wAL_ne, J_sameA, J_sameF, aL_same, Nat.add_left_cancel_iff, Nat.add_eq_left, Nat.left_eq_add, not_false_eq_true, Nat.reduceEqDiff, Nat.reduceAdd, J_add, J_sub, J_mul, J_neg, J_and, J_or, J_xor, J_shl, J_shr, J_div, J_i2b, J_i2l, J_l2i, J_lcm, J_max, J_min, J_nab, J_nao, rdA, rdF, rdL, wA_fold, wF_fold, wL_fold, wC_fold]
  obtain ⟨k3, w⟩ := w
  obtain ⟨k4, w⟩ := w
  refine ⟨fun c1 => ?_, fun c1 => ?_⟩
  · have t2 : x2 ≤ x4 := ((Jle k4 k3).mp c1)
    replace w := w.1 t2
    exact w
  · have t2 : ¬ x2 ≤ x4 := (fun e => c1 ((Jle k4 k3).mpr e))
    replace w := w.2 t2
    obtain ⟨k5, w⟩ := w
    refine ⟨congrArg Prod.fst S_h, ixs S_h k5 hn, ?_⟩
    exact w
theorem m48 {X : Cst} {d : Nat} {c n : Nat} {f t v : Int} {h : AH} {Q : Post} (C : Lay h) (Sh : hs h c = (1, n)) (hn : n ≤ 2147483647) (hd : 2 ≤ d) (hv : -2147483648 ≤ v ∧ v < 2147483648) (hf : 0 ≤ f ∧ f ≤ t ∧ t ≤ n)
    (k : ∀ h', Fr (fun c2 _ => c2 = c) h h' → (∀ j, f ≤ j → j < t → aI h' c j = v) → (∀ j, 0 ≤ j → j < 2147483648 → (j < f ∨ t ≤ j) → aI h' c j = aI h c j) → Q none h') : Ex X PG d 48 0 [some (.ref c), some (.int (J f)), some (.int (J t)), some (.int (J v)), none] [] h Q := by
  obtain ⟨d, rfl⟩ : ∃ e, d = e + 1 := ⟨d - 1, by omega⟩
  have lp : ∀ (m : Nat) (i : Int) (h' : AH), Fr (fun c2 _ => c2 = c) h h' → t - i = m → f ≤ i → i ≤ t → (∀ j, f ≤ j → j < i → aI h' c j = v) → (∀ j, 0 ≤ j → j < 2147483648 → (j < f ∨ i ≤ j) → aI h' c j = aI h c j) → Ex X PG (d + 1) 48 10 [some (.ref c), some (.int (J f)), some (.int (J t)), some (.int (J v)), some (.int (J i))] [] h' Q := by
    intro m
    induction m with
    | zero =>
      intro i h' F h1 h2 h3 h4 h5
      have e : i = t := by omega
      rw [e] at h4 h5
      exact r48_10 (F.C C) (n := n) (by rw [F.1.hs]; exact Sh) (by omega) ⟨by omega, by omega, fun _ => k h' F h4 h5, fun c => absurd (by omega) c⟩
    | succ m ih =>
      intro i h' F h1 h2 h3 h4 h5
      refine r48_10 (F.C C) (n := n) (by rw [F.1.hs]; exact Sh) (by omega) ⟨by omega, by omega, fun c => absurd c (by omega), fun _ => ⟨by omega, ?_⟩⟩
      refine ih (i + 1) _ (F.wA rfl) (by omega) (by omega) (by omega) (fun j a b => ?_) (fun j a b o => ?_)
      · rw [aI_wA hv]
        by_cases q : j = i
        · rw [q, uu_eq]
        · rw [uu_ne (by omega) (by omega) q]; exact h4 j a (by omega)
      · rw [aI_wA hv, uu_ne (by omega) (by omega) (by omega)]
        exact h5 j a b (by omega)
  refine r48_0 C (n := n) Sh (by omega) (m49 C (by omega) (by omega) ⟨rfl, SH.rf, ?_⟩)
  exact lp (t - f).toNat f h Fr.rf (by omega) (by omega) (by omega) (fun j a b => by omega) (fun j _ _ _ => rfl)
def opB (h : AH) (a : Nat) (r d : Int) : Prop := ¬ aI h (a + 1) (aI h (a + 2) d) = aI h (a + 1) (aI h (a + 3) d) ∧ (r = 1 ∨ ¬ bt (fI h a 3) d)
def TOp (a : Nat) (c : Nat) (_ : Nat) : Prop := c = a + 8 ∨ c = a + 9
def OtR (h h' : AH) (a : Nat) (r : Int) : Prop := ∀ q : Int, 0 ≤ q → q < 2 → ¬ q = r → aI h' (a + 8) q = aI h (a + 8) q ∧ ∀ x : Int, 0 ≤ x → x < 8 → aI h' (a + 9) (q * 8 + x) = aI h (a + 9) (q * 8 + x)
def OpR (h h' : AH) (a : Nat) (r i : Int) : Prop := BV i (aI h' (a + 8) r) (opB h a r) ∧ (∀ x : Int, 0 ≤ x → x < 8 → BV i (aI h' (a + 9) (r * 8 + x)) (fun d => opB h a r d ∧ aI h (a + 2) d = x)) ∧ OtR h h' a r
-- OutwardDoors$Plan.openDoors(I)V at 0
set_option maxRecDepth 20000 in
set_option maxHeartbeats 4000000 in
theorem r47_0 {X : Cst} {d : Nat} {a : Nat} {x1 : Int} {h : AH} {Q : Post} (C_h : Lay h) (K_h_0 : PlanAt h a)
  (w : (0 ≤ x1 ∧ x1 < 2) ∧ Ex X PG d 48 0 [some (.ref (a + 9)), some (.int (J (x1 * 8))), some (.int (J ((x1 + 1) * 8))), some (.int (J 0)), none] [] (wA h (a + 8) x1 0) (fun v4 h5 => v4 = none ∧ SH (wA h (a + 8) x1 0) h5 ∧ Ex X PG (d + 1) 47 27 [some (.ref a), some (.int (J x1)), some (.int (J 0)), none] [] h5 Q)) :
    Ex X PG (d + 1) 47 0 [some (.ref a), some (.int (J x1)), none, none] [] h Q := by
  refine wpx_ok (cut := [27]) 19 d 47 0 _ _ _ _ ?_
  show hs h a = (0, 2) ∧ ∃ q1, hR h a 13 = some q1 ∧ (hs h q1).1 = 1 ∧ ix (J x1) (hs h q1).2 ∧ hs (wI h q1 (Int32.toNatClampNeg (J x1)) (J 0)) a = (0, 2) ∧ ∃ q3, hR (wI h q1 (Int32.toNatClampNeg (J x1)) (J 0)) a 14 = some q3 ∧ Ex X PG d 48 0 [some (.ref q3), some (.int ((J x1) * (J 8))), some (.int (((J x1) + (J 1)) * (J 8))), some (.int (J 0)), none] [] (wI h q1 (Int32.toNatClampNeg (J x1)) (J 0)) (fun v4 h5 => v4 = none ∧ Ex X PG (d + 1) 47 27 [some (.ref a), some (.int (J x1)), some (.int (J 0)), none] [] h5 Q)
  try simp only [aI_wAL, fI_wAL, aL_wA, aL_wF, aI_wA_ne, aI_wF_ne, fI_wA_ne, fI_wF_ne, fI_wF_nk, aL_wAL_ne, J_sameA, J_sameF, aL_same, Nat.add_left_cancel_iff, Nat.add_eq_left, Nat.left_eq_add, not_false_eq_true, Nat.reduceEqDiff, Nat.reduceAdd, J_add, J_sub, J_mul, J_neg, J_and, J_or, J_xor, J_shl, J_shr, J_div, J_i2b, J_i2l, J_l2i, J_lcm, J_max, J_min, J_nab, J_nao, rdA, rdF, rdL, wA_fold, wF_fold, wL_fold, wC_fold]
  refine ⟨(plan_0 K_h_0), _, (plan_18 K_h_0), ?_⟩
  obtain ⟨k2, w⟩ := w
  refine ⟨congrArg Prod.fst (plan_8 K_h_0), ixs (plan_8 K_h_0) k2 (by decide), ?_⟩
  refine ⟨(plan_0 K_h_0), _, (plan_19 K_h_0), ?_⟩
  refine Ex.mono w (Nat.le_refl _) ?_
  rintro v4 h5 ⟨rfl, s6, w⟩
  refine ⟨rfl, ?_⟩
  have C_h5 := Lay_SH s6 C_h
  have K_h5_0 := PlanAt_SH s6 K_h_0
  try simp only [aI_wAL, fI_wAL, aL_wA, aL_wF, aI_wA_ne, aI_wF_ne, fI_wA_ne, fI_wF_ne, fI_wF_nk, aL_wAL_ne, J_sameA, J_sameF, aL_same, Nat.add_left_cancel_iff, Nat.add_eq_left, Nat.left_eq_add, not_false_eq_true, Nat.reduceEqDiff, Nat.reduceAdd, J_add, J_sub, J_mul, J_neg, J_and, J_or, J_xor, J_shl, J_shr, J_div, J_i2b, J_i2l, J_l2i, J_lcm, J_max, J_min, J_nab, J_nao, rdA, rdF, rdL, wA_fold, wF_fold, wL_fold, wC_fold]
  exact w
-- OutwardDoors$Plan.openDoors(I)V at 27
set_option maxRecDepth 20000 in
set_option maxHeartbeats 4000000 in
theorem r47_27 {X : Cst} {d : Nat} {a : Nat} {x1 : Int} {x2 : Int} {l3 : Option Value} {h : AH} {Q : Post} (C_h : Lay h) (K_h_0 : PlanAt h a)
  (w : (-2147483648 ≤ x2 ∧ x2 < 2147483648) ∧ ((fI h a 1 ≤ x2 → Q none h) ∧ (¬ fI h a 1 ≤ x2 → (-2147483648 ≤ x1 ∧ x1 < 2147483648) ∧ ((x1 = 1 → (0 ≤ x2 ∧ x2 < 14) ∧ (0 ≤ aI h (a + 2) x2 ∧ aI h (a + 2) x2 < 8) ∧ (0 ≤ aI h (a + 3) x2 ∧ aI h (a + 3) x2 < 8) ∧ ((aI h (a + 1) (aI h (a + 2) x2) = aI h (a + 1) (aI h (a + 3) x2) → Ex X PG (d + 1) 47 27 [some (.ref a), some (.int (J x1)), some (.int (J (x2 + 1))), some (.int (J 1))] [] h Q) ∧ (¬ aI h (a + 1) (aI h (a + 2) x2) = aI h (a + 1) (aI h (a + 3) x2) → (0 ≤ x1 ∧ x1 < 2) ∧ (0 ≤ (x1 * 8) + (aI h (a + 2) x2) ∧ (x1 * 8) + (aI h (a + 2) x2) < 16) ∧ Ex X PG (d + 1) 47 27 [some (.ref a), some (.int (J x1)), some (.int (J (x2 + 1))), some (.int (J 1))] [] (wA (wA h (a + 8) x1 (ior (aI h (a + 8) x1) (shl 1 (iand x2 31)))) (a + 9) ((x1 * 8) + (aI h (a + 2) x2)) (ior (aI h (a + 9) ((x1 * 8) + (aI h (a + 2) x2))) (shl 1 (iand x2 31)))) Q))) ∧ (¬ x1 = 1 → ((¬ iand (shr (fI h a 3) (iand x2 31)) 1 = 0 → Ex X PG (d + 1) 47 27 [some (.ref a), some (.int (J x1)), some (.int (J (x2 + 1))), some (.int (J 0))] [] h Q) ∧ (iand (shr (fI h a 3) (iand x2 31)) 1 = 0 → (0 ≤ x2 ∧ x2 < 14) ∧ (0 ≤ aI h (a + 2) x2 ∧ aI h (a + 2) x2 < 8) ∧ (0 ≤ aI h (a + 3) x2 ∧ aI h (a + 3) x2 < 8) ∧ ((aI h (a + 1) (aI h (a + 2) x2) = aI h (a + 1) (aI h (a + 3) x2) → Ex X PG (d + 1) 47 27 [some (.ref a), some (.int (J x1)), some (.int (J (x2 + 1))), some (.int (J 1))] [] h Q) ∧ (¬ aI h (a + 1) (aI h (a + 2) x2) = aI h (a + 1) (aI h (a + 3) x2) → (0 ≤ x1 ∧ x1 < 2) ∧ (0 ≤ (x1 * 8) + (aI h (a + 2) x2) ∧ (x1 * 8) + (aI h (a + 2) x2) < 16) ∧ Ex X PG (d + 1) 47 27 [some (.ref a), some (.int (J x1)), some (.int (J (x2 + 1))), some (.int (J 1))] [] (wA (wA h (a + 8) x1 (ior (aI h (a + 8) x1) (shl 1 (iand x2 31)))) (a + 9) ((x1 * 8) + (aI h (a + 2) x2)) (ior (aI h (a + 9) ((x1 * 8) + (aI h (a + 2) x2))) (shl 1 (iand x2 31)))) Q))))))))) :
    Ex X PG (d + 1) 47 27 [some (.ref a), some (.int (J x1)), some (.int (J x2)), l3] [] h Q := by
  refine wpx_ok (cut := [27]) 63 d 47 27 _ _ _ _ ?_
  show hs h a = (0, 2) ∧ (((hF h a 1) ≤ (J x2) → Q none h) ∧ (¬ ((hF h a 1) ≤ (J x2)) → (((J x1) = (J 1) → (((J 1) = (J 0) → Ex X PG (d + 1) 47 27 [some (.ref a), some (.int (J x1)), some (.int ((J x2) + (J 1))), some (.int (J 1))] [] h Q) ∧ (¬ ((J 1) = (J 0)) → hs h a = (0, 2) ∧ ∃ q7, hR h a 6 = some q7 ∧ hs h a = (0, 2) ∧ ∃ q8, hR h a 7 = some q8 ∧ (hs h q8).1 = 1 ∧ ix (J x2) (hs h q8).2 ∧ (hs h q7).1 = 1 ∧ ix (hI h q8 (Int32.toNatClampNeg (J x2))) (hs h q7).2 ∧ hs h a = (0, 2) ∧ ∃ q11, hR h a 6 = some q11 ∧ hs h a = (0, 2) ∧ ∃ q12, hR h a 8 = some q12 ∧ (hs h q12).1 = 1 ∧ ix (J x2) (hs h q12).2 ∧ (hs h q11).1 = 1 ∧ ix (hI h q12 (Int32.toNatClampNeg (J x2))) (hs h q11).2 ∧ (((hI h q7 (Int32.toNatClampNeg (hI h q8 (Int32.toNatClampNeg (J x2))))) = (hI h q11 (Int32.toNatClampNeg (hI h q12 (Int32.toNatClampNeg (J x2))))) → Ex X PG (d + 1) 47 27 [some (.ref a), some (.int (J x1)), some (.int ((J x2) + (J 1))), some (.int (J 1))] [] h Q) ∧ (¬ ((hI h q7 (Int32.toNatClampNeg (hI h q8 (Int32.toNatClampNeg (J x2))))) = (hI h q11 (Int32.toNatClampNeg (hI h q12 (Int32.toNatClampNeg (J x2)))))) → hs h a = (0, 2) ∧ ∃ q16, hR h a 13 = some q16 ∧ (hs h q16).1 = 1 ∧ ix (J x1) (hs h q16).2 ∧ (hs h q16).1 = 1 ∧ ix (J x1) (hs h q16).2 ∧ hs (wI h q16 (Int32.toNatClampNeg (J x1)) ((hI h q16 (Int32.toNatClampNeg (J x1))) ||| ((J 1) <<< ((J x2) &&& J 31)))) a = (0, 2) ∧ ∃ q18, hR (wI h q16 (Int32.toNatClampNeg (J x1)) ((hI h q16 (Int32.toNatClampNeg (J x1))) ||| ((J 1) <<< ((J x2) &&& J 31)))) a 14 = some q18 ∧ hs (wI h q16 (Int32.toNatClampNeg (J x1)) ((hI h q16 (Int32.toNatClampNeg (J x1))) ||| ((J 1) <<< ((J x2) &&& J 31)))) a = (0, 2) ∧ ∃ q19, hR (wI h q16 (Int32.toNatClampNeg (J x1)) ((hI h q16 (Int32.toNatClampNeg (J x1))) ||| ((J 1) <<< ((J x2) &&& J 31)))) a 7 = some q19 ∧ (hs (wI h q16 (Int32.toNatClampNeg (J x1)) ((hI h q16 (Int32.toNatClampNeg (J x1))) ||| ((J 1) <<< ((J x2) &&& J 31)))) q19).1 = 1 ∧ ix (J x2) (hs (wI h q16 (Int32.toNatClampNeg (J x1)) ((hI h q16 (Int32.toNatClampNeg (J x1))) ||| ((J 1) <<< ((J x2) &&& J 31)))) q19).2 ∧ (hs (wI h q16 (Int32.toNatClampNeg (J x1)) ((hI h q16 (Int32.toNatClampNeg (J x1))) ||| ((J 1) <<< ((J x2) &&& J 31)))) q18).1 = 1 ∧ ix (((J x1) * (J 8)) + (hI (wI h q16 (Int32.toNatClampNeg (J x1)) ((hI h q16 (Int32.toNatClampNeg (J x1))) ||| ((J 1) <<< ((J x2) &&& J 31)))) q19 (Int32.toNatClampNeg (J x2)))) (hs (wI h q16 (Int32.toNatClampNeg (J x1)) ((hI h q16 (Int32.toNatClampNeg (J x1))) ||| ((J 1) <<< ((J x2) &&& J 31)))) q18).2 ∧ (hs (wI h q16 (Int32.toNatClampNeg (J x1)) ((hI h q16 (Int32.toNatClampNeg (J x1))) ||| ((J 1) <<< ((J x2) &&& J 31)))) q18).1 = 1 ∧ ix (((J x1) * (J 8)) + (hI (wI h q16 (Int32.toNatClampNeg (J x1)) ((hI h q16 (Int32.toNatClampNeg (J x1))) ||| ((J 1) <<< ((J x2) &&& J 31)))) q19 (Int32.toNatClampNeg (J x2)))) (hs (wI h q16 (Int32.toNatClampNeg (J x1)) ((hI h q16 (Int32.toNatClampNeg (J x1))) ||| ((J 1) <<< ((J x2) &&& J 31)))) q18).2 ∧ Ex X PG (d + 1) 47 27 [some (.ref a), some (.int (J x1)), some (.int ((J x2) + (J 1))), some (.int (J 1))] [] (wI (wI h q16 (Int32.toNatClampNeg (J x1)) ((hI h q16 (Int32.toNatClampNeg (J x1))) ||| ((J 1) <<< ((J x2) &&& J 31)))) q18 (Int32.toNatClampNeg (((J x1) * (J 8)) + (hI (wI h q16 (Int32.toNatClampNeg (J x1)) ((hI h q16 (Int32.toNatClampNeg (J x1))) ||| ((J 1) <<< ((J x2) &&& J 31)))) q19 (Int32.toNatClampNeg (J x2))))) ((hI (wI h q16 (Int32.toNatClampNeg (J x1)) ((hI h q16 (Int32.toNatClampNeg (J x1))) ||| ((J 1) <<< ((J x2) &&& J 31)))) q18 (Int32.toNatClampNeg (((J x1) * (J 8)) + (hI (wI h q16 (Int32.toNatClampNeg (J x1)) ((hI h q16 (Int32.toNatClampNeg (J x1))) ||| ((J 1) <<< ((J x2) &&& J 31)))) q19 (Int32.toNatClampNeg (J x2)))))) ||| ((J 1) <<< ((J x2) &&& J 31)))) Q))))) ∧ (¬ ((J x1) = (J 1)) → hs h a = (0, 2) ∧ ((¬ (((hF h a 3) >>> ((J x2) &&& J 31)) &&& (J 1)) = (J 0) → (((J 0) = (J 0) → Ex X PG (d + 1) 47 27 [some (.ref a), some (.int (J x1)), some (.int ((J x2) + (J 1))), some (.int (J 0))] [] h Q) ∧ (¬ ((J 0) = (J 0)) → hs h a = (0, 2) ∧ ∃ q23, hR h a 6 = some q23 ∧ hs h a = (0, 2) ∧ ∃ q24, hR h a 7 = some q24 ∧ (hs h q24).1 = 1 ∧ ix (J x2) (hs h q24).2 ∧ (hs h q23).1 = 1 ∧ ix (hI h q24 (Int32.toNatClampNeg (J x2))) (hs h q23).2 ∧ hs h a = (0, 2) ∧ ∃ q27, hR h a 6 = some q27 ∧ hs h a = (0, 2) ∧ ∃ q28, hR h a 8 = some q28 ∧ (hs h q28).1 = 1 ∧ ix (J x2) (hs h q28).2 ∧ (hs h q27).1 = 1 ∧ ix (hI h q28 (Int32.toNatClampNeg (J x2))) (hs h q27).2 ∧ (((hI h q23 (Int32.toNatClampNeg (hI h q24 (Int32.toNatClampNeg (J x2))))) = (hI h q27 (Int32.toNatClampNeg (hI h q28 (Int32.toNatClampNeg (J x2))))) → Ex X PG (d + 1) 47 27 [some (.ref a), some (.int (J x1)), some (.int ((J x2) + (J 1))), some (.int (J 0))] [] h Q) ∧ (¬ ((hI h q23 (Int32.toNatClampNeg (hI h q24 (Int32.toNatClampNeg (J x2))))) = (hI h q27 (Int32.toNatClampNeg (hI h q28 (Int32.toNatClampNeg (J x2)))))) → hs h a = (0, 2) ∧ ∃ q32, hR h a 13 = some q32 ∧ (hs h q32).1 = 1 ∧ ix (J x1) (hs h q32).2 ∧ (hs h q32).1 = 1 ∧ ix (J x1) (hs h q32).2 ∧ hs (wI h q32 (Int32.toNatClampNeg (J x1)) ((hI h q32 (Int32.toNatClampNeg (J x1))) ||| ((J 1) <<< ((J x2) &&& J 31)))) a = (0, 2) ∧ ∃ q34, hR (wI h q32 (Int32.toNatClampNeg (J x1)) ((hI h q32 (Int32.toNatClampNeg (J x1))) ||| ((J 1) <<< ((J x2) &&& J 31)))) a 14 = some q34 ∧ hs (wI h q32 (Int32.toNatClampNeg (J x1)) ((hI h q32 (Int32.toNatClampNeg (J x1))) ||| ((J 1) <<< ((J x2) &&& J 31)))) a = (0, 2) ∧ ∃ q35, hR (wI h q32 (Int32.toNatClampNeg (J x1)) ((hI h q32 (Int32.toNatClampNeg (J x1))) ||| ((J 1) <<< ((J x2) &&& J 31)))) a 7 = some q35 ∧ (hs (wI h q32 (Int32.toNatClampNeg (J x1)) ((hI h q32 (Int32.toNatClampNeg (J x1))) ||| ((J 1) <<< ((J x2) &&& J 31)))) q35).1 = 1 ∧ ix (J x2) (hs (wI h q32 (Int32.toNatClampNeg (J x1)) ((hI h q32 (Int32.toNatClampNeg (J x1))) ||| ((J 1) <<< ((J x2) &&& J 31)))) q35).2 ∧ (hs (wI h q32 (Int32.toNatClampNeg (J x1)) ((hI h q32 (Int32.toNatClampNeg (J x1))) ||| ((J 1) <<< ((J x2) &&& J 31)))) q34).1 = 1 ∧ ix (((J x1) * (J 8)) + (hI (wI h q32 (Int32.toNatClampNeg (J x1)) ((hI h q32 (Int32.toNatClampNeg (J x1))) ||| ((J 1) <<< ((J x2) &&& J 31)))) q35 (Int32.toNatClampNeg (J x2)))) (hs (wI h q32 (Int32.toNatClampNeg (J x1)) ((hI h q32 (Int32.toNatClampNeg (J x1))) ||| ((J 1) <<< ((J x2) &&& J 31)))) q34).2 ∧ (hs (wI h q32 (Int32.toNatClampNeg (J x1)) ((hI h q32 (Int32.toNatClampNeg (J x1))) ||| ((J 1) <<< ((J x2) &&& J 31)))) q34).1 = 1 ∧ ix (((J x1) * (J 8)) + (hI (wI h q32 (Int32.toNatClampNeg (J x1)) ((hI h q32 (Int32.toNatClampNeg (J x1))) ||| ((J 1) <<< ((J x2) &&& J 31)))) q35 (Int32.toNatClampNeg (J x2)))) (hs (wI h q32 (Int32.toNatClampNeg (J x1)) ((hI h q32 (Int32.toNatClampNeg (J x1))) ||| ((J 1) <<< ((J x2) &&& J 31)))) q34).2 ∧ Ex X PG (d + 1) 47 27 [some (.ref a), some (.int (J x1)), some (.int ((J x2) + (J 1))), some (.int (J 0))] [] (wI (wI h q32 (Int32.toNatClampNeg (J x1)) ((hI h q32 (Int32.toNatClampNeg (J x1))) ||| ((J 1) <<< ((J x2) &&& J 31)))) q34 (Int32.toNatClampNeg (((J x1) * (J 8)) + (hI (wI h q32 (Int32.toNatClampNeg (J x1)) ((hI h q32 (Int32.toNatClampNeg (J x1))) ||| ((J 1) <<< ((J x2) &&& J 31)))) q35 (Int32.toNatClampNeg (J x2))))) ((hI (wI h q32 (Int32.toNatClampNeg (J x1)) ((hI h q32 (Int32.toNatClampNeg (J x1))) ||| ((J 1) <<< ((J x2) &&& J 31)))) q34 (Int32.toNatClampNeg (((J x1) * (J 8)) + (hI (wI h q32 (Int32.toNatClampNeg (J x1)) ((hI h q32 (Int32.toNatClampNeg (J x1))) ||| ((J 1) <<< ((J x2) &&& J 31)))) q35 (Int32.toNatClampNeg (J x2)))))) ||| ((J 1) <<< ((J x2) &&& J 31)))) Q))))) ∧ (¬ (¬ (((hF h a 3) >>> ((J x2) &&& J 31)) &&& (J 1)) = (J 0)) → (((J 1) = (J 0) → Ex X PG (d + 1) 47 27 [some (.ref a), some (.int (J x1)), some (.int ((J x2) + (J 1))), some (.int (J 1))] [] h Q) ∧ (¬ ((J 1) = (J 0)) → hs h a = (0, 2) ∧ ∃ q37, hR h a 6 = some q37 ∧ hs h a = (0, 2) ∧ ∃ q38, hR h a 7 = some q38 ∧ (hs h q38).1 = 1 ∧ ix (J x2) (hs h q38).2 ∧ (hs h q37).1 = 1 ∧ ix (hI h q38 (Int32.toNatClampNeg (J x2))) (hs h q37).2 ∧ hs h a = (0, 2) ∧ ∃ q41, hR h a 6 = some q41 ∧ hs h a = (0, 2) ∧ ∃ q42, hR h a 8 = some q42 ∧ (hs h q42).1 = 1 ∧ ix (J x2) (hs h q42).2 ∧ (hs h q41).1 = 1 ∧ ix (hI h q42 (Int32.toNatClampNeg (J x2))) (hs h q41).2 ∧ (((hI h q37 (Int32.toNatClampNeg (hI h q38 (Int32.toNatClampNeg (J x2))))) = (hI h q41 (Int32.toNatClampNeg (hI h q42 (Int32.toNatClampNeg (J x2))))) → Ex X PG (d + 1) 47 27 [some (.ref a), some (.int (J x1)), some (.int ((J x2) + (J 1))), some (.int (J 1))] [] h Q) ∧ (¬ ((hI h q37 (Int32.toNatClampNeg (hI h q38 (Int32.toNatClampNeg (J x2))))) = (hI h q41 (Int32.toNatClampNeg (hI h q42 (Int32.toNatClampNeg (J x2)))))) → hs h a = (0, 2) ∧ ∃ q46, hR h a 13 = some q46 ∧ (hs h q46).1 = 1 ∧ ix (J x1) (hs h q46).2 ∧ (hs h q46).1 = 1 ∧ ix (J x1) (hs h q46).2 ∧ hs (wI h q46 (Int32.toNatClampNeg (J x1)) ((hI h q46 (Int32.toNatClampNeg (J x1))) ||| ((J 1) <<< ((J x2) &&& J 31)))) a = (0, 2) ∧ ∃ q48, hR (wI h q46 (Int32.toNatClampNeg (J x1)) ((hI h q46 (Int32.toNatClampNeg (J x1))) ||| ((J 1) <<< ((J x2) &&& J 31)))) a 14 = some q48 ∧ hs (wI h q46 (Int32.toNatClampNeg (J x1)) ((hI h q46 (Int32.toNatClampNeg (J x1))) ||| ((J 1) <<< ((J x2) &&& J 31)))) a = (0, 2) ∧ ∃ q49, hR (wI h q46 (Int32.toNatClampNeg (J x1)) ((hI h q46 (Int32.toNatClampNeg (J x1))) ||| ((J 1) <<< ((J x2) &&& J 31)))) a 7 = some q49 ∧ (hs (wI h q46 (Int32.toNatClampNeg (J x1)) ((hI h q46 (Int32.toNatClampNeg (J x1))) ||| ((J 1) <<< ((J x2) &&& J 31)))) q49).1 = 1 ∧ ix (J x2) (hs (wI h q46 (Int32.toNatClampNeg (J x1)) ((hI h q46 (Int32.toNatClampNeg (J x1))) ||| ((J 1) <<< ((J x2) &&& J 31)))) q49).2 ∧ (hs (wI h q46 (Int32.toNatClampNeg (J x1)) ((hI h q46 (Int32.toNatClampNeg (J x1))) ||| ((J 1) <<< ((J x2) &&& J 31)))) q48).1 = 1 ∧ ix (((J x1) * (J 8)) + (hI (wI h q46 (Int32.toNatClampNeg (J x1)) ((hI h q46 (Int32.toNatClampNeg (J x1))) ||| ((J 1) <<< ((J x2) &&& J 31)))) q49 (Int32.toNatClampNeg (J x2)))) (hs (wI h q46 (Int32.toNatClampNeg (J x1)) ((hI h q46 (Int32.toNatClampNeg (J x1))) ||| ((J 1) <<< ((J x2) &&& J 31)))) q48).2 ∧ (hs (wI h q46 (Int32.toNatClampNeg (J x1)) ((hI h q46 (Int32.toNatClampNeg (J x1))) ||| ((J 1) <<< ((J x2) &&& J 31)))) q48).1 = 1 ∧ ix (((J x1) * (J 8)) + (hI (wI h q46 (Int32.toNatClampNeg (J x1)) ((hI h q46 (Int32.toNatClampNeg (J x1))) ||| ((J 1) <<< ((J x2) &&& J 31)))) q49 (Int32.toNatClampNeg (J x2)))) (hs (wI h q46 (Int32.toNatClampNeg (J x1)) ((hI h q46 (Int32.toNatClampNeg (J x1))) ||| ((J 1) <<< ((J x2) &&& J 31)))) q48).2 ∧ Ex X PG (d + 1) 47 27 [some (.ref a), some (.int (J x1)), some (.int ((J x2) + (J 1))), some (.int (J 1))] [] (wI (wI h q46 (Int32.toNatClampNeg (J x1)) ((hI h q46 (Int32.toNatClampNeg (J x1))) ||| ((J 1) <<< ((J x2) &&& J 31)))) q48 (Int32.toNatClampNeg (((J x1) * (J 8)) + (hI (wI h q46 (Int32.toNatClampNeg (J x1)) ((hI h q46 (Int32.toNatClampNeg (J x1))) ||| ((J 1) <<< ((J x2) &&& J 31)))) q49 (Int32.toNatClampNeg (J x2))))) ((hI (wI h q46 (Int32.toNatClampNeg (J x1)) ((hI h q46 (Int32.toNatClampNeg (J x1))) ||| ((J 1) <<< ((J x2) &&& J 31)))) q48 (Int32.toNatClampNeg (((J x1) * (J 8)) + (hI (wI h q46 (Int32.toNatClampNeg (J x1)) ((hI h q46 (Int32.toNatClampNeg (J x1))) ||| ((J 1) <<< ((J x2) &&& J 31)))) q49 (Int32.toNatClampNeg (J x2)))))) ||| ((J 1) <<< ((J x2) &&& J 31)))) Q))))))))))
  try simp only [aI_wAL, fI_wAL, aL_wA, aL_wF, aI_wA_ne, aI_wF_ne, fI_wA_ne, fI_wF_ne, fI_wF_nk, aL_wAL_ne, J_sameA, J_sameF, aL_same, Nat.add_left_cancel_iff, Nat.add_eq_left, Nat.left_eq_add, not_false_eq_true, Nat.reduceEqDiff, Nat.reduceAdd, J_add, J_sub, J_mul, J_neg, J_and, J_or, J_xor, J_shl, J_shr, J_div, J_i2b, J_i2l, J_l2i, J_lcm, J_max, J_min, J_nab, J_nao, rdA, rdF, rdL, wA_fold, wF_fold, wL_fold, wC_fold]
  refine ⟨(plan_0 K_h_0), ?_⟩
  obtain ⟨k3, w⟩ := w
  refine ⟨fun c1 => ?_, fun c1 => ?_⟩
  · have t2 : fI h a 1 ≤ x2 := ((Jle (rg_toInt _) k3).mp c1)
    replace w := w.1 t2
    exact w
  · have t2 : ¬ fI h a 1 ≤ x2 := (fun e => c1 ((Jle (rg_toInt _) k3).mpr e))
    replace w := w.2 t2
    obtain ⟨k6, w⟩ := w
    refine ⟨fun c4 => ?_, fun c4 => ?_⟩
    · have t5 : x1 = 1 := ((Jeq k6 (by decide)).mp c4)
      replace w := w.1 t5
      refine ⟨fun c => absurd c (by decide), fun _ => ?_⟩
      refine ⟨(plan_0 K_h_0), _, (plan_11 K_h_0), ?_⟩
      refine ⟨(plan_0 K_h_0), _, (plan_12 K_h_0), ?_⟩
      obtain ⟨k9, w⟩ := w
      refine ⟨congrArg Prod.fst (plan_2 K_h_0), ixs (plan_2 K_h_0) k9 (by decide), ?_⟩
      obtain ⟨k10, w⟩ := w
      refine ⟨congrArg Prod.fst (plan_1 K_h_0), ixs (plan_1 K_h_0) k10 (by decide), ?_⟩
      refine ⟨(plan_0 K_h_0), _, (plan_11 K_h_0), ?_⟩
      refine ⟨(plan_0 K_h_0), _, (plan_13 K_h_0), ?_⟩
      refine ⟨congrArg Prod.fst (plan_3 K_h_0), ixs (plan_3 K_h_0) k9 (by decide), ?_⟩
      obtain ⟨k13, w⟩ := w
      refine ⟨congrArg Prod.fst (plan_1 K_h_0), ixs (plan_1 K_h_0) k13 (by decide), ?_⟩
      refine ⟨fun c14 => ?_, fun c14 => ?_⟩
      · have t15 : aI h (a + 1) (aI h (a + 2) x2) = aI h (a + 1) (aI h (a + 3) x2) := ((Jeq (rg_toInt _) (rg_toInt _)).mp c14)
        replace w := w.1 t15
        exact w
      · have t15 : ¬ aI h (a + 1) (aI h (a + 2) x2) = aI h (a + 1) (aI h (a + 3) x2) := (fun e => c14 ((Jeq (rg_toInt _) (rg_toInt _)).mpr e))
        replace w := w.2 t15
        refine ⟨(plan_0 K_h_0), _, (plan_18 K_h_0), ?_⟩
        obtain ⟨k17, w⟩ := w
        refine ⟨congrArg Prod.fst (plan_8 K_h_0), ixs (plan_8 K_h_0) k17 (by decide), ?_⟩
        refine ⟨congrArg Prod.fst (plan_8 K_h_0), ixs (plan_8 K_h_0) k17 (by decide), ?_⟩
        refine ⟨(plan_0 K_h_0), _, (plan_19 K_h_0), ?_⟩
        refine ⟨(plan_0 K_h_0), _, (plan_12 K_h_0), ?_⟩
        refine ⟨congrArg Prod.fst (plan_2 K_h_0), ixs (plan_2 K_h_0) k9 (by decide), ?_⟩
        try simp only [aI_wAL, fI_wAL, aL_wA, aL_wF, aI_wA_ne, aI_wF_ne, fI_wA_ne, fI_wF_ne, fI_wF_nk, aL_wAL_ne, J_sameA, J_sameF, aL_same, Nat.add_left_cancel_iff, Nat.add_eq_left, Nat.left_eq_add, not_false_eq_true, Nat.reduceEqDiff, Nat.reduceAdd]
        obtain ⟨k20, w⟩ := w
        refine ⟨congrArg Prod.fst (plan_9 K_h_0), ixs (plan_9 K_h_0) k20 (by decide), ?_⟩
        try simp only [aI_wAL, fI_wAL, aL_wA, aL_wF, aI_wA_ne, aI_wF_ne, fI_wA_ne, fI_wF_ne, fI_wF_nk, aL_wAL_ne, J_sameA, J_sameF, aL_same, Nat.add_left_cancel_iff, Nat.add_eq_left, Nat.left_eq_add, not_false_eq_true, Nat.reduceEqDiff, Nat.reduceAdd]
        refine ⟨congrArg Prod.fst (plan_9 K_h_0), ixs (plan_9 K_h_0) k20 (by decide), ?_⟩
        exact w
    · have t5 : ¬ x1 = 1 := (fun e => c4 ((Jeq k6 (by decide)).mpr e))
      replace w := w.2 t5
      refine ⟨(plan_0 K_h_0), ?_⟩
      refine ⟨fun c21 => ?_, fun c21 => ?_⟩
      · have t22 : ¬ iand (shr (fI h a 3) (iand x2 31)) 1 = 0 := (fun e => c21 ((Jeq (rg_toInt _) (by decide)).mpr e))
        replace w := w.1 t22
        refine ⟨fun _ => ?_, fun c => absurd (by decide) c⟩
        exact w
      · have t22 : iand (shr (fI h a 3) (iand x2 31)) 1 = 0 := ((Jeq (rg_toInt _) (by decide)).mp (Classical.byContradiction c21))
        replace w := w.2 t22
        refine ⟨fun c => absurd c (by decide), fun _ => ?_⟩
        refine ⟨(plan_0 K_h_0), _, (plan_11 K_h_0), ?_⟩
        refine ⟨(plan_0 K_h_0), _, (plan_12 K_h_0), ?_⟩
        obtain ⟨k39, w⟩ := w
        refine ⟨congrArg Prod.fst (plan_2 K_h_0), ixs (plan_2 K_h_0) k39 (by decide), ?_⟩
        obtain ⟨k40, w⟩ := w
        refine ⟨congrArg Prod.fst (plan_1 K_h_0), ixs (plan_1 K_h_0) k40 (by decide), ?_⟩
        refine ⟨(plan_0 K_h_0), _, (plan_11 K_h_0), ?_⟩
        refine ⟨(plan_0 K_h_0), _, (plan_13 K_h_0), ?_⟩
        refine ⟨congrArg Prod.fst (plan_3 K_h_0), ixs (plan_3 K_h_0) k39 (by decide), ?_⟩
        obtain ⟨k43, w⟩ := w
        refine ⟨congrArg Prod.fst (plan_1 K_h_0), ixs (plan_1 K_h_0) k43 (by decide), ?_⟩
        refine ⟨fun c44 => ?_, fun c44 => ?_⟩
        · have t45 : aI h (a + 1) (aI h (a + 2) x2) = aI h (a + 1) (aI h (a + 3) x2) := ((Jeq (rg_toInt _) (rg_toInt _)).mp c44)
          replace w := w.1 t45
          exact w
        · have t45 : ¬ aI h (a + 1) (aI h (a + 2) x2) = aI h (a + 1) (aI h (a + 3) x2) := (fun e => c44 ((Jeq (rg_toInt _) (rg_toInt _)).mpr e))
          replace w := w.2 t45
          refine ⟨(plan_0 K_h_0), _, (plan_18 K_h_0), ?_⟩
          obtain ⟨k47, w⟩ := w
          refine ⟨congrArg Prod.fst (plan_8 K_h_0), ixs (plan_8 K_h_0) k47 (by decide), ?_⟩
          refine ⟨congrArg Prod.fst (plan_8 K_h_0), ixs (plan_8 K_h_0) k47 (by decide), ?_⟩
          refine ⟨(plan_0 K_h_0), _, (plan_19 K_h_0), ?_⟩
          refine ⟨(plan_0 K_h_0), _, (plan_12 K_h_0), ?_⟩
          refine ⟨congrArg Prod.fst (plan_2 K_h_0), ixs (plan_2 K_h_0) k39 (by decide), ?_⟩
          try simp only [aI_wAL, fI_wAL, aL_wA, aL_wF, aI_wA_ne, aI_wF_ne, fI_wA_ne, fI_wF_ne, fI_wF_nk, aL_wAL_ne, J_sameA, J_sameF, aL_same, Nat.add_left_cancel_iff, Nat.add_eq_left, Nat.left_eq_add, not_false_eq_true, Nat.reduceEqDiff, Nat.reduceAdd]
          obtain ⟨k50, w⟩ := w
          refine ⟨congrArg Prod.fst (plan_9 K_h_0), ixs (plan_9 K_h_0) k50 (by decide), ?_⟩
          try simp only [aI_wAL, fI_wAL, aL_wA, aL_wF, aI_wA_ne, aI_wF_ne, fI_wA_ne, fI_wF_ne, fI_wF_nk, aL_wAL_ne, J_sameA, J_sameF, aL_same, Nat.add_left_cancel_iff, Nat.add_eq_left, Nat.left_eq_add, not_false_eq_true, Nat.reduceEqDiff, Nat.reduceAdd]
          refine ⟨congrArg Prod.fst (plan_9 K_h_0), ixs (plan_9 K_h_0) k50 (by decide), ?_⟩
          exact w
theorem m47 {X : Cst} {d a : Nat} {r : Int} {h : AH} {Q : Post} (C : Lay h) (K : PlanAt h a) (hd : 3 ≤ d) (hr : 0 ≤ r ∧ r < 2) (hn : 0 ≤ fI h a 1 ∧ fI h a 1 ≤ 14) (hw : 0 ≤ fI h a 3 ∧ fI h a 3 < 16384) (hx : ∀ e, 0 ≤ e → e < fI h a 1 → (0 ≤ aI h (a + 2) e ∧ aI h (a + 2) e < 8) ∧ 0 ≤ aI h (a + 3) e ∧ aI h (a + 3) e < 8)
    (k : ∀ h', Fr (TOp a) h h' → OpR h h' a r (fI h a 1) → Q none h') : Ex X PG d 47 0 [some (.ref a), some (.int (J r)), none, none] [] h Q := by
  obtain ⟨d, rfl⟩ : ∃ e, d = e + 1 := ⟨d - 1, by omega⟩
  have lp : ∀ (z : Nat) (i : Int) (l3 : Option Value) (h' : AH), fI h a 1 - i = z → 0 ≤ i → i ≤ fI h a 1 → Fr (TOp a) h h' → OpR h h' a r i → Ex X PG (d + 1) 47 27 [some (.ref a), some (.int (J r)), some (.int (J i)), l3] [] h' Q := by
    intro z
    induction z with
    | zero =>
      intro i l3 h' ez i0 i1 F O
      have e1 := F.f a 1 (by unfold TOp; omega)
      have ei : i = fI h a 1 := by omega
      rw [ei] at O
      refine r47_27 (F.C C) (PlanAt_SH F.1 K) ?_
      rw [e1]
      exact ⟨by omega, fun _ => k h' F O, fun c => absurd (by omega) c⟩
    | succ z ih =>
      intro i l3 h' ez i0 i1 F O
      have e1 := F.f a 1 (by unfold TOp; omega)
      have e3 := F.f a 3 (by unfold TOp; omega)
      have a1 := F.a (a + 1) (by unfold TOp; omega)
      have a2 := F.a (a + 2) (by unfold TOp; omega)
      have a3 := F.a (a + 3) (by unfold TOp; omega)
      have hxi := hx i (by omega) (by omega)
      have off : ∀ l, ¬ opB h a r i → Ex X PG (d + 1) 47 27 [some (.ref a), some (.int (J r)), some (.int (J (i + 1))), l] [] h' Q := fun l no =>
        ih (i + 1) l h' (by omega) (by omega) (by omega) F ⟨O.1.off no, fun x x0 x1 => (O.2.1 x x0 x1).off (fun z => no z.1), O.2.2⟩
      have on : ∀ l, opB h a r i → Ex X PG (d + 1) 47 27 [some (.ref a), some (.int (J r)), some (.int (J (i + 1))), l] [] (wA (wA h' (a + 8) r (ior (aI h' (a + 8) r) (shl 1 (iand i 31)))) (a + 9) (r * 8 + aI h (a + 2) i) (ior (aI h' (a + 9) (r * 8 + aI h (a + 2) i)) (shl 1 (iand i 31)))) Q := by
        intro l op
        have b1 := O.1.on (by omega) op
        have b2 := (O.2.1 _ hxi.1.1 hxi.1.2).on (by omega) ⟨op, rfl⟩
        have g1 := b1.1
        have g2 := b2.1
        refine ih (i + 1) l _ (by omega) (by omega) (by omega) ((F.wA (Or.inl rfl)).wA (Or.inr rfl)) ⟨?_, fun x x0 x1 => ?_, fun q q0 q1 qn => ⟨?_, fun x x0 x1 => ?_⟩⟩
        · rw [aI_wA_ne (by omega), aI_wA (by omega), uu_eq]; exact b1
        · rw [aI_wA (by omega), aI_wA_ne (by omega)]
          by_cases c : x = aI h (a + 2) i
          · rw [c, uu_eq]; exact b2
          · rw [uu_ne (by omega) (by omega) (by omega)]
            exact (O.2.1 x x0 x1).off (fun z => c z.2.symm)
        · rw [aI_wA_ne (by omega), aI_wA (by omega), uu_ne (by omega) (by omega) qn]; exact (O.2.2 q q0 q1 qn).1
        · rw [aI_wA (by omega), aI_wA_ne (by omega), uu_ne (by omega) (by omega) (by omega)]; exact (O.2.2 q q0 q1 qn).2 x x0 x1
      have bi := isof_iff (s := fI h a 3) (k := i) (by omega) (by omega)
      refine r47_27 (F.C C) (PlanAt_SH F.1 K) ?_
      rw [e1, e3, a1, a2, a3]
      refine ⟨by omega, fun c => absurd c (by omega), fun _ => ⟨by omega, fun c1 => ⟨by omega, by omega, by omega, fun c => ?_, fun c => ⟨by omega, by omega, ?_⟩⟩, fun c1 => ⟨fun c2 => ?_, fun c2 => ⟨by omega, by omega, by omega, fun c => ?_, fun c => ⟨by omega, by omega, ?_⟩⟩⟩⟩⟩
      · exact off _ (fun z => z.1 c)
      · exact on _ ⟨c, Or.inl c1⟩
      · refine off _ (fun z => ?_)
        rcases z.2 with z | z
        · exact c1 z
        · have := (not_congr bi).mpr z
          have := isof_01 (s := fI h a 3) (k := i) (by omega) (by omega)
          omega
      · exact off _ (fun z => z.1 c)
      · refine on _ ⟨c, Or.inr (fun z => ?_)⟩
        have := bi.mpr z
        omega
  refine r47_0 C K ⟨hr, ?_⟩
  have s0 : SH h (wA h (a + 8) r 0) := SH.rf.wA
  have K0 := PlanAt_SH s0 K
  refine m48 (n := 16) (Lay_SH s0 C) K0.2.2.2.2.2.2.2.2.2.1 (by omega) (by omega) (by omega) (by omega) (fun h2 F2 z2 o2 => ⟨rfl, F2.1, ?_⟩)
  refine lp (fI h a 1).toNat 0 none h2 (by omega) (by omega) (by omega) ((Fr.rf.wA (Or.inl rfl)).tr (F2.mo (fun _ _ z => Or.inr z))) ⟨?_, fun x x0 x1 => ?_, fun q q0 q1 qn => ⟨?_, fun x x0 x1 => ?_⟩⟩
  · rw [F2.a (a + 8) (fun _ z => by omega), aI_wA (by omega), uu_eq]; exact BV.z
  · rw [z2 _ (by omega) (by omega)]; exact BV.z
  · rw [F2.a (a + 8) (fun _ z => by omega), aI_wA (by omega), uu_ne (by omega) (by omega) qn]
  · rw [o2 _ (by omega) (by omega) (by omega), aI_wA_ne (by omega)]
