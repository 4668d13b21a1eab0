/-! THE REFERENCE: draws, days. -/
def dr (x : Int) : Int := (x * 1103515245 + 12345) % 2147483648
theorem dr_b (x : Int) : 0 ≤ dr x ∧ dr x < 2147483648 := by unfold dr; omega
theorem i2l_toInt {x : Int} (h : -2147483648 ≤ x ∧ x < 2147483648) : (i2l x).toInt = x := by
  unfold i2l; rw [Int32.toInt_toInt64]; exact toInt_J h
theorem bm64 {x : Int} (h : -9223372036854775808 ≤ x ∧ x < 9223372036854775808) : x.bmod (2 ^ 64) = x := by
  rw [Int.bmod_eq_of_le (by omega) (by omega)]
theorem mul64 {a b : Int64} (h : -9223372036854775808 ≤ a.toInt * b.toInt ∧ a.toInt * b.toInt < 9223372036854775808) : (a * b).toInt = a.toInt * b.toInt := by rw [Int64.toInt_mul, bm64 h]
theorem add64 {a b : Int64} (h : -9223372036854775808 ≤ a.toInt + b.toInt ∧ a.toInt + b.toInt < 9223372036854775808) : (a + b).toInt = a.toInt + b.toInt := by rw [Int64.toInt_add, bm64 h]
theorem sub64 {a b : Int64} (h : -9223372036854775808 ≤ a.toInt - b.toInt ∧ a.toInt - b.toInt < 9223372036854775808) : (a - b).toInt = a.toInt - b.toInt := by rw [Int64.toInt_sub, bm64 h]
theorem div64 {a b : Int64} (ha : 0 ≤ a.toInt) (hb : 0 < b.toInt) : (a / b).toInt = a.toInt / b.toInt := by
  rw [Int64.toInt_div_of_ne_right]
  · exact Int.tdiv_eq_ediv_of_nonneg ha
  · intro e
    have := congrArg Int64.toInt e
    have e2 : (-1 : Int64).toInt = -1 := by decide
    omega
theorem rng64 (a : Int64) : -9223372036854775808 ≤ a.toInt ∧ a.toInt < 9223372036854775808 := by
  have x := Int64.le_toInt a
  have y := Int64.toInt_lt a
  omega
theorem rem64 {a b : Int64} (ha : 0 ≤ a.toInt) (hb : 0 < b.toInt) : (a - a / b * b).toInt = a.toInt % b.toInt := by
  have ra := rng64 a
  have d0 := div64 ha hb
  have e := Int.emod_add_mul_ediv a.toInt b.toInt
  have m0 := Int.emod_nonneg a.toInt (b := b.toInt) (by omega)
  have m1 := Int.emod_lt_of_pos a.toInt (b := b.toInt) hb
  have q0 : 0 ≤ a.toInt / b.toInt := Int.ediv_nonneg ha (by omega)
  have q1 : 0 ≤ b.toInt * (a.toInt / b.toInt) := Int.mul_nonneg (by omega) q0
  have mu : (a / b * b).toInt = b.toInt * (a.toInt / b.toInt) := by
    rw [mul64, d0, Int.mul_comm]
    rw [d0, Int.mul_comm]; omega
  rw [sub64, mu]
  · omega
  · rw [mu]; omega
theorem l2i_eq {a : Int64} (h : -2147483648 ≤ a.toInt ∧ a.toInt < 2147483648) : l2i a = a.toInt := by
  unfold l2i
  rw [Int64.toInt_toInt32, Int.bmod_eq_of_le (by omega) (by omega)]
theorem drL {x : Int} (h : 0 ≤ x ∧ x < 2147483648) : (i2l x * 1103515245 + 12345).toInt = x * 1103515245 + 12345 := by
  have e := i2l_toInt (x := x) (by omega)
  have c1 : (1103515245 : Int64).toInt = 1103515245 := by decide
  have c2 : (12345 : Int64).toInt = 12345 := by decide
  have m : (i2l x * 1103515245).toInt = x * 1103515245 := by rw [mul64, e, c1]; rw [e, c1]; omega
  rw [add64, m, c2]; rw [m, c2]; omega
theorem drD {x : Int} (h : 0 ≤ x ∧ x < 2147483648) : i2l x * 1103515245 + 12345 - (i2l x * 1103515245 + 12345) / 2147483648 * 2147483648 = i2l (dr x) := by
  apply Int64.toInt.inj
  have c : (2147483648 : Int64).toInt = 2147483648 := by decide
  rw [rem64 (by rw [drL h]; omega) (by rw [c]; decide), drL h, c, i2l_toInt (by have := dr_b x; omega)]
  rfl
/-- a draw's number below n -/
def drq (x n : Int) : Int := x / 65536 % n
theorem drQ {x n : Int} (h : 0 ≤ x ∧ x < 2147483648) (hn : 0 < n ∧ n < 2147483648) : l2i (i2l x / 65536 - i2l x / 65536 / i2l n * i2l n) = drq x n := by
  have e := i2l_toInt (x := x) (by omega)
  have en := i2l_toInt (x := n) (by omega)
  have c : (65536 : Int64).toInt = 65536 := by decide
  have d1 : (i2l x / 65536).toInt = x / 65536 := by rw [div64 (by omega) (by rw [c]; decide), e, c]
  have m0 := Int.emod_nonneg (x / 65536) (b := n) (by omega)
  have m1 := Int.emod_lt_of_pos (x / 65536) (b := n) hn.1
  have r : (i2l x / 65536 - i2l x / 65536 / i2l n * i2l n).toInt = drq x n := by rw [rem64 (by omega) (by omega), d1, en]; rfl
  rw [l2i_eq, r]
  rw [r]; unfold drq; omega
theorem drq_b {x n : Int} (hn : 0 < n) : 0 ≤ drq x n ∧ drq x n < n := ⟨Int.emod_nonneg _ (by omega), Int.emod_lt_of_pos _ hn⟩
theorem hL_wL (h : AH) (c k : Nat) (v : Int64) : hL (wL h c k v) c k = v := by
  show va_up (hL h) c _ c k = v
  rw [va_up_same, va_up_same]
-- OutwardDoorsModel.draw(I)I at 0
set_option maxRecDepth 20000 in
set_option maxHeartbeats 4000000 in
theorem r286_0 {X : Cst} {d : Nat} {x1 : Int} {h : AH} {Q : Post} (C_h : Lay h)
  (w : ¬ (2147483648 : Int64) = 0 ∧ ¬ (65536 : Int64) = 0 ∧ ¬ (i2l x1) = 0 ∧ Q (some (.int (J (l2i (((hL (wL h 256 39 ((((hL h 256 39) * (1103515245 : Int64)) + (12345 : Int64)) - (((hL h 256 39) * (1103515245 : Int64)) + (12345 : Int64)) / (2147483648 : Int64) * (2147483648 : Int64))) 256 39) / (65536 : Int64)) - ((hL (wL h 256 39 ((((hL h 256 39) * (1103515245 : Int64)) + (12345 : Int64)) - (((hL h 256 39) * (1103515245 : Int64)) + (12345 : Int64)) / (2147483648 : Int64) * (2147483648 : Int64))) 256 39) / (65536 : Int64)) / (i2l x1) * (i2l x1)))))) (wL h 256 39 ((((hL h 256 39) * (1103515245 : Int64)) + (12345 : Int64)) - (((hL h 256 39) * (1103515245 : Int64)) + (12345 : Int64)) / (2147483648 : Int64) * (2147483648 : Int64)))) :
    Ex X PG (d + 1) 286 0 [some (.ref 256), some (.int (J x1))] [] h Q := by
  refine wpx_ok (cut := []) 19 d 286 0 _ _ _ _ ?_
  show hs h 256 = (0, 11) ∧ ¬ (2147483648 : Int64) = 0 ∧ hs h 256 = (0, 11) ∧ hs (wL h 256 39 ((((hL h 256 39) * (1103515245 : Int64)) + (12345 : Int64)) - (((hL h 256 39) * (1103515245 : Int64)) + (12345 : Int64)) / (2147483648 : Int64) * (2147483648 : Int64))) 256 = (0, 11) ∧ ¬ (65536 : Int64) = 0 ∧ ¬ (Int32.toInt64 (J x1)) = 0 ∧ Q (some (.int (Int64.toInt32 (((hL (wL h 256 39 ((((hL h 256 39) * (1103515245 : Int64)) + (12345 : Int64)) - (((hL h 256 39) * (1103515245 : Int64)) + (12345 : Int64)) / (2147483648 : Int64) * (2147483648 : Int64))) 256 39) / (65536 : Int64)) - ((hL (wL h 256 39 ((((hL h 256 39) * (1103515245 : Int64)) + (12345 : Int64)) - (((hL h 256 39) * (1103515245 : Int64)) + (12345 : Int64)) / (2147483648 : Int64) * (2147483648 : Int64))) 256 39) / (65536 : Int64)) / (Int32.toInt64 (J x1)) * (Int32.toInt64 (J x1)))))) (wL h 256 39 ((((hL h 256 39) * (1103515245 : Int64)) + (12345 : Int64)) - (((hL h 256 39) * (1103515245 : Int64)) + (12345 : Int64)) / (2147483648 : Int64) * (2147483648 : Int64)))
  try simp only [aI_wAL, fI_wAL, aL_wA, aL_wF, aI_wA_ne, aI_wF_ne, fI_wA_ne, fI_wF_ne, fI_wF_nk, aL_wAL_ne, J_sameA, J_sameF, aL_same, Nat.add_left_cancel_iff, Nat.add_eq_left, Nat.left_eq_add, not_false_eq_true, Nat.reduceEqDiff, Nat.reduceAdd, J_add, J_sub, J_mul, J_neg, J_and, J_or, J_xor, J_shl, J_shr, J_div, J_i2b, J_i2l, J_l2i, J_lcm, J_max, J_min, J_nab, J_nao, rdA, rdF, rdL, wA_fold, wF_fold, wL_fold, wC_fold]
  refine ⟨(ls256 C_h), ?_⟩
  obtain ⟨k1, w⟩ := w
  refine ⟨k1, ?_⟩
  refine ⟨(ls256 C_h), ?_⟩
  refine ⟨(ls256 C_h), ?_⟩
  obtain ⟨k2, w⟩ := w
  refine ⟨k2, ?_⟩
  obtain ⟨k3, w⟩ := w
  refine ⟨k3, ?_⟩
  exact w
theorem m286 {X : Cst} {d : Nat} {x n : Int} {h : AH} {Q : Post} (C : Lay h) (hd : 1 ≤ d) (hx : 0 ≤ x ∧ x < 2147483648) (e : hL h 256 39 = i2l x) (hn : 0 < n ∧ n < 2147483648)
    (k : Q (some (.int (J (drq (dr x) n)))) (wL h 256 39 (i2l (dr x)))) : Ex X PG d 286 0 [some (.ref 256), some (.int (J n))] [] h Q := by
  obtain ⟨d, rfl⟩ : ∃ e, d = e + 1 := ⟨d - 1, by omega⟩
  refine r286_0 C ⟨by decide, by decide, fun z => ?_, ?_⟩
  · have := congrArg Int64.toInt z
    rw [i2l_toInt (by omega)] at this
    have e0 : (0 : Int64).toInt = 0 := by decide
    omega
  · rw [hL_wL, e, drD hx, drQ (dr_b x) hn]
    exact k
-- OutwardDoorsModel.aimsDrawn()V at 0
set_option maxRecDepth 20000 in
set_option maxHeartbeats 4000000 in
theorem r285_0 {X : Cst} {d : Nat}  {h : AH} {Q : Post} (C_h : Lay h)
  (w : ((¬ aI h 266 2 = 0 → Ex X PG d 286 0 [some (.ref 256), some (.int (J (aI h 266 2)))] [] h (fun v5 h6 => ∃ r7 : Int, (-2147483648 ≤ r7 ∧ r7 < 2147483648) ∧ v5 = some (.int (J r7)) ∧ SH h h6 ∧ Ex X PG d 286 0 [some (.ref 256), some (.int (J (aI h6 266 0)))] [] h6 (fun v10 h11 => ∃ r12 : Int, (-2147483648 ≤ r12 ∧ r12 < 2147483648) ∧ v10 = some (.int (J r12)) ∧ SH h6 h11 ∧ (0 ≤ (10 + (6 * r7)) + 1 ∧ (10 + (6 * r7)) + 1 < 123) ∧ Q none (wA h11 266 ((10 + (6 * r7)) + 1) r12)))) ∧ (aI h 266 2 = 0 → Q none h))) :
    Ex X PG (d + 1) 285 0 [some (.ref 256), none] [] h Q := by
  refine wpx_ok (cut := []) 29 d 285 0 _ _ _ _ ?_
  show hs h 256 = (0, 11) ∧ ∃ q1, hR h 256 20 = some q1 ∧ (hs h q1).1 = 1 ∧ ix (J 2) (hs h q1).2 ∧ ((¬ (hI h q1 (Int32.toNatClampNeg (J 2))) = (J 0) → hs h 256 = (0, 11) ∧ ∃ q4, hR h 256 20 = some q4 ∧ (hs h q4).1 = 1 ∧ ix (J 2) (hs h q4).2 ∧ hs h 256 = (0, 11) ∧ Ex X PG d 286 0 [some (.ref 256), some (.int (hI h q4 (Int32.toNatClampNeg (J 2))))] [] h (fun v5 h6 => ∃ r7, v5 = some (.int r7) ∧ hs h6 256 = (0, 11) ∧ ∃ q8, hR h6 256 20 = some q8 ∧ hs h6 256 = (0, 11) ∧ ∃ q9, hR h6 256 20 = some q9 ∧ (hs h6 q9).1 = 1 ∧ ix (J 0) (hs h6 q9).2 ∧ hs h6 256 = (0, 11) ∧ Ex X PG d 286 0 [some (.ref 256), some (.int (hI h6 q9 (Int32.toNatClampNeg (J 0))))] [] h6 (fun v10 h11 => ∃ r12, v10 = some (.int r12) ∧ (hs h11 q8).1 = 1 ∧ ix (((J 10) + ((J 6) * r7)) + (J 1)) (hs h11 q8).2 ∧ Q none (wI h11 q8 (Int32.toNatClampNeg (((J 10) + ((J 6) * r7)) + (J 1))) r12)))) ∧ (¬ (¬ (hI h q1 (Int32.toNatClampNeg (J 2))) = (J 0)) → Q none h))
  try simp only [aI_wAL, fI_wAL, aL_wA, aL_wF, aI_wA_ne, aI_wF_ne, fI_wA_ne, fI_wF_ne, fI_wF_nk, aL_wAL_ne, J_sameA, J_sameF, aL_same, Nat.add_left_cancel_iff, Nat.add_eq_left, Nat.left_eq_add, not_false_eq_true, Nat.reduceEqDiff, Nat.reduceAdd, J_add, J_sub, J_mul, J_neg, J_and, J_or, J_xor, J_shl, J_shr, J_div, J_i2b, J_i2l, J_l2i, J_lcm, J_max, J_min, J_nab, J_nao, rdA, rdF, rdL, wA_fold, wF_fold, wL_fold, wC_fold]
  refine ⟨(ls256 C_h), _, (lr256_20 C_h), ?_⟩
  refine ⟨congrArg Prod.fst (ls266 C_h), ixs (ls266 C_h) (by decide) (by decide), ?_⟩
  refine ⟨fun c2 => ?_, fun c2 => ?_⟩
  · have t3 : ¬ aI h 266 2 = 0 := (fun e => c2 ((Jeq (rg_toInt _) (by decide)).mpr e))
    replace w := w.1 t3
    refine ⟨(ls256 C_h), _, (lr256_20 C_h), ?_⟩
    refine ⟨congrArg Prod.fst (ls266 C_h), ixs (ls266 C_h) (by decide) (by decide), ?_⟩
    refine ⟨(ls256 C_h), ?_⟩
    refine Ex.mono w (Nat.le_refl _) ?_
    rintro v5 h6 ⟨r7, gr7, rfl, s15, w⟩
    refine ⟨_, rfl, ?_⟩
    have C_h6 := Lay_SH s15 C_h
    try simp only [aI_wAL, fI_wAL, aL_wA, aL_wF, aI_wA_ne, aI_wF_ne, fI_wA_ne, fI_wF_ne, fI_wF_nk, aL_wAL_ne, J_sameA, J_sameF, aL_same, Nat.add_left_cancel_iff, Nat.add_eq_left, Nat.left_eq_add, not_false_eq_true, Nat.reduceEqDiff, Nat.reduceAdd, J_add, J_sub, J_mul, J_neg, J_and, J_or, J_xor, J_shl, J_shr, J_div, J_i2b, J_i2l, J_l2i, J_lcm, J_max, J_min, J_nab, J_nao, rdA, rdF, rdL, wA_fold, wF_fold, wL_fold, wC_fold]
    refine ⟨(ls256 C_h6), _, (lr256_20 C_h6), ?_⟩
    refine ⟨(ls256 C_h6), _, (lr256_20 C_h6), ?_⟩
    refine ⟨congrArg Prod.fst (ls266 C_h6), ixs (ls266 C_h6) (by decide) (by decide), ?_⟩
    refine ⟨(ls256 C_h6), ?_⟩
    refine Ex.mono w (Nat.le_refl _) ?_
    rintro v10 h11 ⟨r12, gr12, rfl, s14, w⟩
    refine ⟨_, rfl, ?_⟩
    have C_h11 := Lay_SH s14 C_h6
    try simp only [aI_wAL, fI_wAL, aL_wA, aL_wF, aI_wA_ne, aI_wF_ne, fI_wA_ne, fI_wF_ne, fI_wF_nk, aL_wAL_ne, J_sameA, J_sameF, aL_same, Nat.add_left_cancel_iff, Nat.add_eq_left, Nat.left_eq_add, not_false_eq_true, Nat.reduceEqDiff, Nat.reduceAdd, J_add, J_sub, J_mul, J_neg, J_and, J_or, J_xor, J_shl, J_shr, J_div, J_i2b, J_i2l, J_l2i, J_lcm, J_max, J_min, J_nab, J_nao, rdA, rdF, rdL, wA_fold, wF_fold, wL_fold, wC_fold]
    obtain ⟨k13, w⟩ := w
    refine ⟨congrArg Prod.fst (ls266 C_h11), ixs (ls266 C_h11) k13 (by decide), ?_⟩
    exact w
  · have t3 : aI h 266 2 = 0 := ((Jeq (rg_toInt _) (by decide)).mp (Classical.byContradiction c2))
    replace w := w.2 t3
    exact w
/-- one has another GOAL by two draws -/
def aimD (S : Int → Int) (x : Int) : Int → Int := if S 2 = 0 then S else uu_ S (10 + 6 * drq (dr x) (S 2) + 1) (drq (dr (dr x)) (S 0))
def xD (S : Int → Int) (x : Int) : Int := if S 2 = 0 then x else dr (dr x)
theorem hL_wA (h : AH) (c : Nat) (e v : Int) : hL (wA h c e v) = hL h := rfl
theorem SH_wL (h : AH) (c k : Nat) (v : Int64) : SH h (wL h c k v) := ⟨rfl, rfl⟩
theorem aI_wL (h : AH) (c k c' : Nat) (v : Int64) : aI (wL h c k v) c' = aI h c' := rfl
theorem m285 {X : Cst} {d : Nat} {x : Int} {h : AH} {Q : Post} (C : Lay h) (hd : 2 ≤ d) (W : WF 999 (aI h 266)) (hx : 0 ≤ x ∧ x < 2147483648) (e : hL h 256 39 = i2l x)
    (k : ∀ h', Fr (fun c j => c = 266 ∨ (c = 256 ∧ j = 39)) h h' → hL h' 256 39 = i2l (xD (aI h 266) x) → aI h' 266 = aimD (aI h 266) x → Q none h') : Ex X PG d 285 0 [some (.ref 256), none] [] h Q := by
  obtain ⟨d, rfl⟩ : ∃ e, d = e + 1 := ⟨d - 1, by omega⟩
  have b := W.1
  unfold WFb at b
  unfold xD aimD at k
  refine r285_0 C ⟨fun c => ?_, fun c => ?_⟩
  · rw [if_neg c, if_neg c] at k
    have p0 : 0 < aI h 266 2 := by omega
    have s0 : 0 < aI h 266 0 := by have := W.2.1 0 (by omega) p0; omega
    have q1 := drq_b (x := dr x) p0
    have q2 := drq_b (x := dr (dr x)) s0
    refine m286 (x := x) C (by omega) hx e (by omega) ⟨_, by omega, rfl, SH_wL _ _ _ _, ?_⟩
    rw [aI_wL]
    refine m286 (x := dr x) (n := aI h 266 0) (Lay_SH (SH_wL _ _ _ _) C) (by omega) (dr_b x) (hL_wL _ _ _ _) (by omega) ⟨drq (dr (dr x)) (aI h 266 0), by omega, rfl, SH_wL _ _ _ _, by omega, ?_⟩
    have F : Fr (fun c j => c = 266 ∨ (c = 256 ∧ j = 39)) h (wA (wL (wL h 256 39 (i2l (dr x))) 256 39 (i2l (dr (dr x)))) 266 (10 + 6 * drq (dr x) (aI h 266 2) + 1) (drq (dr (dr x)) (aI h 266 0))) := ((Fr.rf.wL (Or.inr ⟨rfl, rfl⟩)).wL (Or.inr ⟨rfl, rfl⟩)).wA (Or.inl rfl)
    refine k _ F (by rw [hL_wA, hL_wL]) ?_
    rw [aI_wA (by omega), aI_wL, aI_wL]
  · rw [if_pos c, if_pos c] at k
    exact k h Fr.rf e rfl
