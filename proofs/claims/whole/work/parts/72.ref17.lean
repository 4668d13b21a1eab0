/-! THE REFERENCE: who is where as a number. -/
-- OutwardDoorsModel.power(I)I at 0
set_option maxRecDepth 20000 in
set_option maxHeartbeats 4000000 in
theorem r258_0 {X : Cst} {d : Nat} {x1 : Int} {h : AH} {Q : Post} (C_h : Lay h)
  (w : Ex X PG (d + 1) 258 4 [some (.ref 256), some (.int (J x1)), some (.int (J 1)), some (.int (J 0))] [] h Q) :
    Ex X PG (d + 1) 258 0 [some (.ref 256), some (.int (J x1)), none, none] [] h Q := by
  refine wpx_ok (cut := [4]) 4 d 258 0 _ _ _ _ ?_
  show Ex X PG (d + 1) 258 4 [some (.ref 256), some (.int (J x1)), some (.int (J 1)), some (.int (J 0))] [] h Q
  try simp only [aI_wAL, fI_wAL, aL_wA, aL_wF, aI_wA_ne, aI_wF_ne, fI_wA_ne, fI_wF_ne, fI_wF_nk, aL_wAL_ne, J_sameA, J_sameF, aL_same, Nat.add_left_cancel_iff, Nat.add_eq_left, Nat.left_eq_add, not_false_eq_true, Nat.reduceEqDiff, Nat.reduceAdd, J_add, J_sub, J_mul, J_neg, J_and, J_or, J_xor, J_shl, J_shr, J_div, J_i2b, J_i2l, J_l2i, J_lcm, J_max, J_min, J_nab, J_nao, rdA, rdF, rdL, wA_fold, wF_fold, wL_fold, wC_fold]
  exact w
-- OutwardDoorsModel.power(I)I at 4
set_option maxRecDepth 20000 in
set_option maxHeartbeats 4000000 in
theorem r258_4 {X : Cst} {d : Nat} {x1 : Int} {x2 : Int} {x3 : Int} {h : AH} {Q : Post} (C_h : Lay h)
  (w : (-2147483648 ≤ x3 ∧ x3 < 2147483648) ∧ (-2147483648 ≤ x1 ∧ x1 < 2147483648) ∧ ((x1 ≤ x3 → Q (some (.int (J x2))) h) ∧ (¬ x1 ≤ x3 → Ex X PG (d + 1) 258 4 [some (.ref 256), some (.int (J x1)), some (.int (J (x2 * (aI h 266 0)))), some (.int (J (x3 + 1)))] [] h Q))) :
    Ex X PG (d + 1) 258 4 [some (.ref 256), some (.int (J x1)), some (.int (J x2)), some (.int (J x3))] [] h Q := by
  refine wpx_ok (cut := [4]) 12 d 258 4 _ _ _ _ ?_
  show (((J x1) ≤ (J x3) → Q (some (.int (J x2))) h) ∧ (¬ ((J x1) ≤ (J x3)) → hs h 256 = (0, 11) ∧ ∃ q5, hR h 256 20 = some q5 ∧ (hs h q5).1 = 1 ∧ ix (J 0) (hs h q5).2 ∧ Ex X PG (d + 1) 258 4 [some (.ref 256), some (.int (J x1)), some (.int ((J x2) * (hI h q5 (Int32.toNatClampNeg (J 0))))), some (.int ((J x3) + (J 1)))] [] h Q))
  try simp only [aI_wAL, fI_wAL, aL_wA, aL_wF, aI_wA_ne, aI_wF_ne, fI_wA_ne, fI_wF_ne, fI_wF_nk, aL_wAL_ne, J_sameA, J_sameF, aL_same, Nat.add_left_cancel_iff, Nat.add_eq_left, Nat.left_eq_add, not_false_eq_true, Nat.reduceEqDiff, Nat.reduceAdd, J_add, J_sub, J_mul, J_neg, J_and, J_or, J_xor, J_shl, J_shr, J_div, J_i2b, J_i2l, J_l2i, J_lcm, J_max, J_min, J_nab, J_nao, rdA, rdF, rdL, wA_fold, wF_fold, wL_fold, wC_fold]
  obtain ⟨k3, w⟩ := w
  obtain ⟨k4, w⟩ := w
  refine ⟨fun c1 => ?_, fun c1 => ?_⟩
  · have t2 : x1 ≤ x3 := ((Jle k4 k3).mp c1)
    replace w := w.1 t2
    exact w
  · have t2 : ¬ x1 ≤ x3 := (fun e => c1 ((Jle k4 k3).mpr e))
    replace w := w.2 t2
    refine ⟨(ls256 C_h), _, (lr256_20 C_h), ?_⟩
    refine ⟨congrArg Prod.fst (ls266 C_h), ixs (ls266 C_h) (by decide) (by decide), ?_⟩
    exact w
theorem pw_rg {b : Int} (hb : 0 < b ∧ b ≤ 8) {m : Nat} (hm : m ≤ 5) : -2147483648 ≤ b ^ m ∧ b ^ m < 2147483648 := by have := pw_32k hb.1 hb.2 hm; omega
/-- a power, within the ints -/
def pwi (b p : Int) : Int := if (0 < b ∧ b ≤ 8) ∧ (0 ≤ p ∧ p ≤ 5) then b ^ p.toNat else 1
theorem pwi_e {b p : Int} (hb : 0 < b ∧ b ≤ 8) (hp : 0 ≤ p ∧ p ≤ 5) : pwi b p = b ^ p.toNat := if_pos ⟨hb, hp⟩
theorem pwi_b (b p : Int) : 0 < pwi b p ∧ pwi b p ≤ 32768 := by
  unfold pwi
  by_cases c : (0 < b ∧ b ≤ 8) ∧ (0 ≤ p ∧ p ≤ 5)
  · rw [if_pos c]; exact pw_32k c.1.1 c.1.2 (by omega)
  · rw [if_neg c]; decide
theorem pwi_rg (b p : Int) : -2147483648 ≤ pwi b p ∧ pwi b p < 2147483648 := by have := pwi_b b p; omega
theorem m258 {X : Cst} {d : Nat} {p : Int} {h : AH} {Q : Post} (C : Lay h) (hd : 1 ≤ d) (hp : 0 ≤ p ∧ p ≤ 5) (hn : 0 < aI h 266 0 ∧ aI h 266 0 ≤ 8) (k : Q (some (.int (J (pwi (aI h 266 0) p)))) h) : Ex X PG d 258 0 [some (.ref 256), some (.int (J p)), none, none] [] h Q := by
  obtain ⟨d, rfl⟩ : ∃ e, d = e + 1 := ⟨d - 1, by omega⟩
  rw [pwi_e hn hp] at k
  have lp : ∀ (z i : Nat), p - i = z → Ex X PG (d + 1) 258 4 [some (.ref 256), some (.int (J p)), some (.int (J (aI h 266 0 ^ i))), some (.int (J (i : Int)))] [] h Q := by
    intro z
    induction z with
    | zero =>
      intro i e
      refine r258_4 C ⟨by omega, by omega, fun _ => ?_, fun y => absurd (by omega) y⟩
      rw [show p.toNat = i by omega] at k; exact k
    | succ z ih =>
      intro i e
      refine r258_4 C ⟨by omega, by omega, fun y => absurd y (by omega), fun _ => ?_⟩
      rw [← Int.pow_succ]
      exact ih (i + 1) (by omega)
  refine r258_0 C ?_
  have := lp p.toNat 0 (by omega)
  rw [Int.pow_zero] at this
  exact this
/-- a digit; a number with another digit -/
def dgt (b c p : Int) : Int := if 0 < b ∧ b ≤ 8 then c / b ^ p.toNat % b else 0
def mvd (b c p r : Int) : Int := c + (r - dgt b c p) * pwi b p
theorem dgt_b (b c p : Int) : 0 ≤ dgt b c p ∧ dgt b c p < 8 := by
  unfold dgt
  by_cases e : 0 < b ∧ b ≤ 8
  · rw [if_pos e]
    have x := Int.emod_nonneg (c / b ^ p.toNat) (b := b) (by omega)
    have y := Int.emod_lt_of_pos (c / b ^ p.toNat) (b := b) e.1
    omega
  · rw [if_neg e]; decide
theorem dgt_rg (b c p : Int) : -2147483648 ≤ dgt b c p ∧ dgt b c p < 2147483648 := by have := dgt_b b c p; omega
theorem dgt_enc {b : Int} (hb : 0 < b ∧ b ≤ 8) {m : Nat} {f : Int → Int} (k : Kf m b f) {p : Int} (hp : 0 ≤ p ∧ p < m) : dgt b (enc b m f) p = f p := by
  unfold dgt
  rw [if_pos hb, enc_dg hb.1 m f p.toNat k.1 (by omega), show ((p.toNat : Nat) : Int) = p by omega]
theorem mvd_enc {b : Int} (hb : 0 < b ∧ b ≤ 8) {m : Nat} (hm : m ≤ 5) {f : Int → Int} (k : Kf m b f) {p : Int} (hp : 0 ≤ p ∧ p < m) (r : Int) : mvd b (enc b m f) p r = enc b m (fu f p r) := by
  unfold mvd
  rw [dgt_enc hb k hp, pwi_e hb (by omega)]
  have := enc_fu (b := b) m f p.toNat r (by omega)
  rw [show ((p.toNat : Nat) : Int) = p by omega] at this
  exact this.symm
-- OutwardDoorsModel.roomIn(II)I at 0
set_option maxRecDepth 20000 in
set_option maxHeartbeats 4000000 in
theorem r260_0 {X : Cst} {d : Nat} {x1 : Int} {x2 : Int} {h : AH} {Q : Post} (C_h : Lay h) (hd : 1 ≤ d)
  (w : (0 ≤ x2 ∧ x2 ≤ 5) ∧ (0 < aI h 266 0 ∧ aI h 266 0 ≤ 8) ∧ ¬ (pwi (aI h 266 0) x2) = 0 ∧ ¬ (aI h 266 0) = 0 ∧ Q (some (.int (J ((idv x1 (pwi (aI h 266 0) x2)) - idv (idv x1 (pwi (aI h 266 0) x2)) (aI h 266 0) * (aI h 266 0))))) h) :
    Ex X PG (d + 1) 260 0 [some (.ref 256), some (.int (J x1)), some (.int (J x2))] [] h Q := by
  refine wpx_ok (cut := []) 11 d 260 0 _ _ _ _ ?_
  show hs h 256 = (0, 11) ∧ Ex X PG d 258 0 [some (.ref 256), some (.int (J x2)), none, none] [] h (fun v1 h2 => ∃ r3, v1 = some (.int r3) ∧ ¬ r3 = J 0 ∧ hs h2 256 = (0, 11) ∧ ∃ q7, hR h2 256 20 = some q7 ∧ (hs h2 q7).1 = 1 ∧ ix (J 0) (hs h2 q7).2 ∧ ¬ (hI h2 q7 (Int32.toNatClampNeg (J 0))) = J 0 ∧ Q (some (.int (((J x1) / r3) - ((J x1) / r3) / (hI h2 q7 (Int32.toNatClampNeg (J 0))) * (hI h2 q7 (Int32.toNatClampNeg (J 0)))))) h2)
  try simp only [aI_wAL, fI_wAL, aL_wA, aL_wF, aI_wA_ne, aI_wF_ne, fI_wA_ne, fI_wF_ne, fI_wF_nk, aL_wAL_ne, J_sameA, J_sameF, aL_same, Nat.add_left_cancel_iff, Nat.add_eq_left, Nat.left_eq_add, not_false_eq_true, Nat.reduceEqDiff, Nat.reduceAdd, J_add, J_sub, J_mul, J_neg, J_and, J_or, J_xor, J_shl, J_shr, J_div, J_i2b, J_i2l, J_l2i, J_lcm, J_max, J_min, J_nab, J_nao, rdA, rdF, rdL, wA_fold, wF_fold, wL_fold, wC_fold]
  refine ⟨(ls256 C_h), ?_⟩
  obtain ⟨k4, w⟩ := w
  obtain ⟨k5, w⟩ := w
  refine m258 (h := h) (p := x2) C_h (by omega) k4 k5 ?_
  refine ⟨_, rfl, ?_⟩
  try simp only [aI_wAL, fI_wAL, aL_wA, aL_wF, aI_wA_ne, aI_wF_ne, fI_wA_ne, fI_wF_ne, fI_wF_nk, aL_wAL_ne, J_sameA, J_sameF, aL_same, Nat.add_left_cancel_iff, Nat.add_eq_left, Nat.left_eq_add, not_false_eq_true, Nat.reduceEqDiff, Nat.reduceAdd, J_add, J_sub, J_mul, J_neg, J_and, J_or, J_xor, J_shl, J_shr, J_div, J_i2b, J_i2l, J_l2i, J_lcm, J_max, J_min, J_nab, J_nao, rdA, rdF, rdL, wA_fold, wF_fold, wL_fold, wC_fold]
  obtain ⟨k6, w⟩ := w
  refine ⟨fun e => k6 ((Jeq (pwi_rg _ _) (by decide)).mp e), ?_⟩
  refine ⟨(ls256 C_h), _, (lr256_20 C_h), ?_⟩
  refine ⟨congrArg Prod.fst (ls266 C_h), ixs (ls266 C_h) (by decide) (by decide), ?_⟩
  obtain ⟨k8, w⟩ := w
  refine ⟨fun e => k8 ((Jeq (rg_toInt _) (by decide)).mp e), ?_⟩
  exact w
theorem m260 {X : Cst} {d : Nat} {c p : Int} {h : AH} {Q : Post} (C : Lay h) (hd : 2 ≤ d) (hc : 0 ≤ c ∧ c < 32768) (hp : 0 ≤ p ∧ p ≤ 5) (hn : 0 < aI h 266 0 ∧ aI h 266 0 ≤ 8) (k : Q (some (.int (J (dgt (aI h 266 0) c p)))) h) : Ex X PG d 260 0 [some (.ref 256), some (.int (J c)), some (.int (J p))] [] h Q := by
  obtain ⟨d, rfl⟩ : ∃ e, d = e + 1 := ⟨d - 1, by omega⟩
  have w := pwi_b (aI h 266 0) p
  refine r260_0 C (by omega) ⟨hp, hn, by omega, by omega, ?_⟩
  have d0 : 0 ≤ c / pwi (aI h 266 0) p := Int.ediv_nonneg (by omega) (by omega)
  have d1 : c / pwi (aI h 266 0) p ≤ c := Int.ediv_le_self _ (by omega)
  rw [idv_nn (by omega) (by omega), rem_nn (by omega) (by omega), pwi_e hn hp]
  unfold dgt at k
  rw [if_pos hn] at k
  exact k
-- OutwardDoorsModel.moved(III)I at 0
set_option maxRecDepth 20000 in
set_option maxHeartbeats 4000000 in
theorem r264_0 {X : Cst} {d : Nat} {x1 : Int} {x2 : Int} {x3 : Int} {h : AH} {Q : Post} (C_h : Lay h) (hd : 2 ≤ d)
  (w : (0 ≤ x1 ∧ x1 < 32768) ∧ (0 ≤ x2 ∧ x2 ≤ 5) ∧ (0 < aI h 266 0 ∧ aI h 266 0 ≤ 8) ∧ Q (some (.int (J (x1 + ((x3 - (dgt (aI h 266 0) x1 x2)) * (pwi (aI h 266 0) x2)))))) h) :
    Ex X PG (d + 1) 264 0 [some (.ref 256), some (.int (J x1)), some (.int (J x2)), some (.int (J x3))] [] h Q := by
  refine wpx_ok (cut := []) 13 d 264 0 _ _ _ _ ?_
  show hs h 256 = (0, 11) ∧ Ex X PG d 260 0 [some (.ref 256), some (.int (J x1)), some (.int (J x2))] [] h (fun v1 h2 => ∃ r3, v1 = some (.int r3) ∧ hs h2 256 = (0, 11) ∧ Ex X PG d 258 0 [some (.ref 256), some (.int (J x2)), none, none] [] h2 (fun v7 h8 => ∃ r9, v7 = some (.int r9) ∧ Q (some (.int ((J x1) + (((J x3) - r3) * r9)))) h8))
  try simp only [aI_wAL, fI_wAL, aL_wA, aL_wF, aI_wA_ne, aI_wF_ne, fI_wA_ne, fI_wF_ne, fI_wF_nk, aL_wAL_ne, J_sameA, J_sameF, aL_same, Nat.add_left_cancel_iff, Nat.add_eq_left, Nat.left_eq_add, not_false_eq_true, Nat.reduceEqDiff, Nat.reduceAdd, J_add, J_sub, J_mul, J_neg, J_and, J_or, J_xor, J_shl, J_shr, J_div, J_i2b, J_i2l, J_l2i, J_lcm, J_max, J_min, J_nab, J_nao, rdA, rdF, rdL, wA_fold, wF_fold, wL_fold, wC_fold]
  refine ⟨(ls256 C_h), ?_⟩
  obtain ⟨k4, w⟩ := w
  obtain ⟨k5, w⟩ := w
  obtain ⟨k6, w⟩ := w
  refine m260 (h := h) (c := x1) (p := x2) C_h (by omega) k4 k5 k6 ?_
  refine ⟨_, rfl, ?_⟩
  try simp only [aI_wAL, fI_wAL, aL_wA, aL_wF, aI_wA_ne, aI_wF_ne, fI_wA_ne, fI_wF_ne, fI_wF_nk, aL_wAL_ne, J_sameA, J_sameF, aL_same, Nat.add_left_cancel_iff, Nat.add_eq_left, Nat.left_eq_add, not_false_eq_true, Nat.reduceEqDiff, Nat.reduceAdd, J_add, J_sub, J_mul, J_neg, J_and, J_or, J_xor, J_shl, J_shr, J_div, J_i2b, J_i2l, J_l2i, J_lcm, J_max, J_min, J_nab, J_nao, rdA, rdF, rdL, wA_fold, wF_fold, wL_fold, wC_fold]
  refine ⟨(ls256 C_h), ?_⟩
  refine m258 (h := h) (p := x2) C_h (by omega) k5 k6 ?_
  refine ⟨_, rfl, ?_⟩
  try simp only [aI_wAL, fI_wAL, aL_wA, aL_wF, aI_wA_ne, aI_wF_ne, fI_wA_ne, fI_wF_ne, fI_wF_nk, aL_wAL_ne, J_sameA, J_sameF, aL_same, Nat.add_left_cancel_iff, Nat.add_eq_left, Nat.left_eq_add, not_false_eq_true, Nat.reduceEqDiff, Nat.reduceAdd, J_add, J_sub, J_mul, J_neg, J_and, J_or, J_xor, J_shl, J_shr, J_div, J_i2b, J_i2l, J_l2i, J_lcm, J_max, J_min, J_nab, J_nao, rdA, rdF, rdL, wA_fold, wF_fold, wL_fold, wC_fold]
  exact w
theorem m264 {X : Cst} {d : Nat} {c p r : Int} {h : AH} {Q : Post} (C : Lay h) (hd : 3 ≤ d) (hc : 0 ≤ c ∧ c < 32768) (hp : 0 ≤ p ∧ p ≤ 5) (hn : 0 < aI h 266 0 ∧ aI h 266 0 ≤ 8) (k : Q (some (.int (J (mvd (aI h 266 0) c p r)))) h) : Ex X PG d 264 0 [some (.ref 256), some (.int (J c)), some (.int (J p)), some (.int (J r))] [] h Q := by
  obtain ⟨d, rfl⟩ : ∃ e, d = e + 1 := ⟨d - 1, by omega⟩
  exact r264_0 C (by omega) ⟨hc, hp, hn, k⟩
/-- where everybody is now -/
def nowF (S : Int → Int) : Int → Int := fun p => if 0 ≤ p ∧ p < S 2 then pS S p 0 else 0
theorem nowF_K {N : Int} {S : Int → Int} (W : WF N S) : Kf (S 2).toNat (S 0) (nowF S) := by
  refine ⟨fun p p0 p1 => ?_, fun p hp => ?_⟩
  · unfold nowF; rw [if_pos (by omega)]; have := W.2.1 p p0 (by omega); omega
  · unfold nowF; rw [if_neg (by omega)]
theorem enc_top {b : Int} : ∀ (m : Nat) (f : Int → Int), enc b (m + 1) f = enc b m f + f m * b ^ m := by
  intro m
  induction m with
  | zero => intro f; show f 0 + b * 0 = 0 + f 0 * b ^ 0; rw [Int.pow_zero]; omega
  | succ m ih =>
    intro f
    show f 0 + b * enc b (m + 1) (fun p => f (p + 1)) = f 0 + b * enc b m (fun p => f (p + 1)) + f ((m + 1 : Nat) : Int) * b ^ (m + 1)
    rw [ih, Int.mul_add, Int.pow_succ, show f ((m + 1 : Nat) : Int) = f ((m : Int) + 1) from rfl, Int.mul_comm b (f ((m : Int) + 1) * b ^ m), Int.mul_assoc, Int.add_assoc]
-- OutwardDoorsModel.codeNow()I at 0
set_option maxRecDepth 20000 in
set_option maxHeartbeats 4000000 in
theorem r265_0 {X : Cst} {d : Nat}  {h : AH} {Q : Post} (C_h : Lay h)
  (w : Ex X PG (d + 1) 265 4 [some (.ref 256), some (.int (J 0)), some (.int (J 0))] [] h Q) :
    Ex X PG (d + 1) 265 0 [some (.ref 256), none, none] [] h Q := by
  refine wpx_ok (cut := [4]) 4 d 265 0 _ _ _ _ ?_
  show Ex X PG (d + 1) 265 4 [some (.ref 256), some (.int (J 0)), some (.int (J 0))] [] h Q
  try simp only [aI_wAL, fI_wAL, aL_wA, aL_wF, aI_wA_ne, aI_wF_ne, fI_wA_ne, fI_wF_ne, fI_wF_nk, aL_wAL_ne, J_sameA, J_sameF, aL_same, Nat.add_left_cancel_iff, Nat.add_eq_left, Nat.left_eq_add, not_false_eq_true, Nat.reduceEqDiff, Nat.reduceAdd, J_add, J_sub, J_mul, J_neg, J_and, J_or, J_xor, J_shl, J_shr, J_div, J_i2b, J_i2l, J_l2i, J_lcm, J_max, J_min, J_nab, J_nao, rdA, rdF, rdL, wA_fold, wF_fold, wL_fold, wC_fold]
  exact w
-- OutwardDoorsModel.codeNow()I at 4
set_option maxRecDepth 20000 in
set_option maxHeartbeats 4000000 in
theorem r265_4 {X : Cst} {d : Nat} {x1 : Int} {x2 : Int} {h : AH} {Q : Post} (C_h : Lay h) (hd : 1 ≤ d)
  (w : (-2147483648 ≤ x2 ∧ x2 < 2147483648) ∧ ((aI h 266 2 ≤ x2 → Q (some (.int (J x1))) h) ∧ (¬ aI h 266 2 ≤ x2 → (0 ≤ 10 + 6 * x2 + 0 ∧ 10 + 6 * x2 + 0 < 123) ∧ (0 ≤ x2 ∧ x2 ≤ 5) ∧ (0 < aI h 266 0 ∧ aI h 266 0 ≤ 8) ∧ Ex X PG (d + 1) 265 4 [some (.ref 256), some (.int (J (x1 + ((pS (aI h 266) x2 0) * (pwi (aI h 266 0) x2))))), some (.int (J (x2 + 1)))] [] h Q))) :
    Ex X PG (d + 1) 265 4 [some (.ref 256), some (.int (J x1)), some (.int (J x2))] [] h Q := by
  refine wpx_ok (cut := [4]) 19 d 265 4 _ _ _ _ ?_
  show hs h 256 = (0, 11) ∧ ∃ q1, hR h 256 20 = some q1 ∧ (hs h q1).1 = 1 ∧ ix (J 2) (hs h q1).2 ∧ (((hI h q1 (Int32.toNatClampNeg (J 2))) ≤ (J x2) → Q (some (.int (J x1))) h) ∧ (¬ ((hI h q1 (Int32.toNatClampNeg (J 2))) ≤ (J x2)) → hs h 256 = (0, 11) ∧ Ex X PG d 209 0 [some (.ref 256), some (.int (J x2)), some (.int (J 0))] [] h (fun v5 h6 => ∃ r7, v5 = some (.int r7) ∧ hs h6 256 = (0, 11) ∧ Ex X PG d 258 0 [some (.ref 256), some (.int (J x2)), none, none] [] h6 (fun v9 h10 => ∃ r11, v9 = some (.int r11) ∧ Ex X PG (d + 1) 265 4 [some (.ref 256), some (.int ((J x1) + (r7 * r11))), some (.int ((J x2) + (J 1)))] [] h10 Q))))
  try simp only [aI_wAL, fI_wAL, aL_wA, aL_wF, aI_wA_ne, aI_wF_ne, fI_wA_ne, fI_wF_ne, fI_wF_nk, aL_wAL_ne, J_sameA, J_sameF, aL_same, Nat.add_left_cancel_iff, Nat.add_eq_left, Nat.left_eq_add, not_false_eq_true, Nat.reduceEqDiff, Nat.reduceAdd, J_add, J_sub, J_mul, J_neg, J_and, J_or, J_xor, J_shl, J_shr, J_div, J_i2b, J_i2l, J_l2i, J_lcm, J_max, J_min, J_nab, J_nao, rdA, rdF, rdL, wA_fold, wF_fold, wL_fold, wC_fold]
  refine ⟨(ls256 C_h), _, (lr256_20 C_h), ?_⟩
  refine ⟨congrArg Prod.fst (ls266 C_h), ixs (ls266 C_h) (by decide) (by decide), ?_⟩
  obtain ⟨k4, w⟩ := w
  refine ⟨fun c2 => ?_, fun c2 => ?_⟩
  · have t3 : aI h 266 2 ≤ x2 := ((Jle (rg_toInt _) k4).mp c2)
    replace w := w.1 t3
    exact w
  · have t3 : ¬ aI h 266 2 ≤ x2 := (fun e => c2 ((Jle (rg_toInt _) k4).mpr e))
    replace w := w.2 t3
    refine ⟨(ls256 C_h), ?_⟩
    obtain ⟨k8, w⟩ := w
    refine m209 (h := h) (p := x2) (w := 0) C_h (by omega) k8 ?_
    refine ⟨_, rfl, ?_⟩
    try simp only [aI_wAL, fI_wAL, aL_wA, aL_wF, aI_wA_ne, aI_wF_ne, fI_wA_ne, fI_wF_ne, fI_wF_nk, aL_wAL_ne, J_sameA, J_sameF, aL_same, Nat.add_left_cancel_iff, Nat.add_eq_left, Nat.left_eq_add, not_false_eq_true, Nat.reduceEqDiff, Nat.reduceAdd, J_add, J_sub, J_mul, J_neg, J_and, J_or, J_xor, J_shl, J_shr, J_div, J_i2b, J_i2l, J_l2i, J_lcm, J_max, J_min, J_nab, J_nao, rdA, rdF, rdL, wA_fold, wF_fold, wL_fold, wC_fold]
    refine ⟨(ls256 C_h), ?_⟩
    obtain ⟨k12, w⟩ := w
    obtain ⟨k13, w⟩ := w
    refine m258 (h := h) (p := x2) C_h (by omega) k12 k13 ?_
    refine ⟨_, rfl, ?_⟩
    try simp only [aI_wAL, fI_wAL, aL_wA, aL_wF, aI_wA_ne, aI_wF_ne, fI_wA_ne, fI_wF_ne, fI_wF_nk, aL_wAL_ne, J_sameA, J_sameF, aL_same, Nat.add_left_cancel_iff, Nat.add_eq_left, Nat.left_eq_add, not_false_eq_true, Nat.reduceEqDiff, Nat.reduceAdd, J_add, J_sub, J_mul, J_neg, J_and, J_or, J_xor, J_shl, J_shr, J_div, J_i2b, J_i2l, J_l2i, J_lcm, J_max, J_min, J_nab, J_nao, rdA, rdF, rdL, wA_fold, wF_fold, wL_fold, wC_fold]
    exact w
theorem m265 {X : Cst} {d : Nat} {N : Int} {h : AH} {Q : Post} (C : Lay h) (hd : 2 ≤ d) (W : WF N (aI h 266)) (hn : 0 < aI h 266 0) (k : Q (some (.int (J (enc (aI h 266 0) (aI h 266 2).toNat (nowF (aI h 266)))))) h) : Ex X PG d 265 0 [some (.ref 256), none, none] [] h Q := by
  obtain ⟨d, rfl⟩ : ∃ e, d = e + 1 := ⟨d - 1, by omega⟩
  have b := W.1
  unfold WFb at b
  have lp : ∀ (z i : Nat), aI h 266 2 - i = z → Ex X PG (d + 1) 265 4 [some (.ref 256), some (.int (J (enc (aI h 266 0) i (nowF (aI h 266))))), some (.int (J (i : Int)))] [] h Q := by
    intro z
    induction z with
    | zero =>
      intro i e
      refine r265_4 C (by omega) ⟨by omega, fun _ => ?_, fun y => absurd (by omega) y⟩
      rw [show (aI h 266 2).toNat = i by omega] at k; exact k
    | succ z ih =>
      intro i e
      refine r265_4 C (by omega) ⟨by omega, fun y => absurd y (by omega), fun _ => ⟨by omega, by omega, by omega, ?_⟩⟩
      have := ih (i + 1) (by omega)
      rw [enc_top] at this
      rw [pwi_e (by omega) (by omega), show ((i : Int)).toNat = i by omega]
      have ef : nowF (aI h 266) i = pS (aI h 266) i 0 := by unfold nowF; rw [if_pos (by omega)]
      rw [ef] at this
      exact this
  refine r265_0 C ?_
  exact lp (aI h 266 2).toNat 0 (by omega)
/-- the told ones are at their goals -/
def atG (S : Int → Int) (s : Int) (f : Int → Int) : Prop := ∀ p, 0 ≤ p → p < S 2 → bt s p → f p = pS S p 1
-- OutwardDoorsModel.areAtGoals(II)Z at 0
set_option maxRecDepth 20000 in
set_option maxHeartbeats 4000000 in
theorem r259_0 {X : Cst} {d : Nat} {x1 : Int} {x2 : Int} {h : AH} {Q : Post} (C_h : Lay h)
  (w : Ex X PG (d + 1) 259 2 [some (.ref 256), some (.int (J x1)), some (.int (J x2)), some (.int (J 0))] [] h Q) :
    Ex X PG (d + 1) 259 0 [some (.ref 256), some (.int (J x1)), some (.int (J x2)), none] [] h Q := by
  refine wpx_ok (cut := [2]) 2 d 259 0 _ _ _ _ ?_
  show Ex X PG (d + 1) 259 2 [some (.ref 256), some (.int (J x1)), some (.int (J x2)), some (.int (J 0))] [] h Q
  try simp only [aI_wAL, fI_wAL, aL_wA, aL_wF, aI_wA_ne, aI_wF_ne, fI_wA_ne, fI_wF_ne, fI_wF_nk, aL_wAL_ne, J_sameA, J_sameF, aL_same, Nat.add_left_cancel_iff, Nat.add_eq_left, Nat.left_eq_add, not_false_eq_true, Nat.reduceEqDiff, Nat.reduceAdd, J_add, J_sub, J_mul, J_neg, J_and, J_or, J_xor, J_shl, J_shr, J_div, J_i2b, J_i2l, J_l2i, J_lcm, J_max, J_min, J_nab, J_nao, rdA, rdF, rdL, wA_fold, wF_fold, wL_fold, wC_fold]
  exact w
-- OutwardDoorsModel.areAtGoals(II)Z at 2
set_option maxRecDepth 20000 in
set_option maxHeartbeats 4000000 in
theorem r259_2 {X : Cst} {d : Nat} {x1 : Int} {x2 : Int} {x3 : Int} {h : AH} {Q : Post} (C_h : Lay h) (hd : 2 ≤ d)
  (w : (-2147483648 ≤ x3 ∧ x3 < 2147483648) ∧ ((aI h 266 2 ≤ x3 → Q (some (.int (J 1))) h) ∧ (¬ aI h 266 2 ≤ x3 → (0 ≤ x2 ∧ x2 < 2147483648) ∧ (0 ≤ x3 ∧ x3 < 16) ∧ ((¬ (bt x2 x3) → Ex X PG (d + 1) 259 2 [some (.ref 256), some (.int (J x1)), some (.int (J x2)), some (.int (J (x3 + 1)))] [] h Q) ∧ ((bt x2 x3) → (0 ≤ x1 ∧ x1 < 32768) ∧ (0 ≤ x3 ∧ x3 ≤ 5) ∧ (0 < aI h 266 0 ∧ aI h 266 0 ≤ 8) ∧ (0 ≤ 10 + 6 * x3 + 1 ∧ 10 + 6 * x3 + 1 < 123) ∧ ((dgt (aI h 266 0) x1 x3 = pS (aI h 266) x3 1 → Ex X PG (d + 1) 259 2 [some (.ref 256), some (.int (J x1)), some (.int (J x2)), some (.int (J (x3 + 1)))] [] h Q) ∧ (¬ dgt (aI h 266 0) x1 x3 = pS (aI h 266) x3 1 → Q (some (.int (J 0))) h))))))) :
    Ex X PG (d + 1) 259 2 [some (.ref 256), some (.int (J x1)), some (.int (J x2)), some (.int (J x3))] [] h Q := by
  refine wpx_ok (cut := [2]) 21 d 259 2 _ _ _ _ ?_
  show hs h 256 = (0, 11) ∧ ∃ q1, hR h 256 20 = some q1 ∧ (hs h q1).1 = 1 ∧ ix (J 2) (hs h q1).2 ∧ (((hI h q1 (Int32.toNatClampNeg (J 2))) ≤ (J x3) → (J 1 = J 0 ∨ J 1 = J 1) ∧ Q (some (.int (J 1))) h) ∧ (¬ ((hI h q1 (Int32.toNatClampNeg (J 2))) ≤ (J x3)) → Ex X PG d 226 0 [some (.int (J x2)), some (.int (J x3))] [] h (fun v5 h6 => ∃ r7, v5 = some (.int r7) ∧ ((r7 = (J 0) → Ex X PG (d + 1) 259 2 [some (.ref 256), some (.int (J x1)), some (.int (J x2)), some (.int ((J x3) + (J 1)))] [] h6 Q) ∧ (¬ (r7 = (J 0)) → hs h6 256 = (0, 11) ∧ Ex X PG d 260 0 [some (.ref 256), some (.int (J x1)), some (.int (J x3))] [] h6 (fun v12 h13 => ∃ r14, v12 = some (.int r14) ∧ hs h13 256 = (0, 11) ∧ Ex X PG d 209 0 [some (.ref 256), some (.int (J x3)), some (.int (J 1))] [] h13 (fun v18 h19 => ∃ r20, v18 = some (.int r20) ∧ ((r14 = r20 → Ex X PG (d + 1) 259 2 [some (.ref 256), some (.int (J x1)), some (.int (J x2)), some (.int ((J x3) + (J 1)))] [] h19 Q) ∧ (¬ (r14 = r20) → (J 0 = J 0 ∨ J 0 = J 1) ∧ Q (some (.int (J 0))) h19)))))))))
  try simp only [aI_wAL, fI_wAL, aL_wA, aL_wF, aI_wA_ne, aI_wF_ne, fI_wA_ne, fI_wF_ne, fI_wF_nk, aL_wAL_ne, J_sameA, J_sameF, aL_same, Nat.add_left_cancel_iff, Nat.add_eq_left, Nat.left_eq_add, not_false_eq_true, Nat.reduceEqDiff, Nat.reduceAdd, J_add, J_sub, J_mul, J_neg, J_and, J_or, J_xor, J_shl, J_shr, J_div, J_i2b, J_i2l, J_l2i, J_lcm, J_max, J_min, J_nab, J_nao, rdA, rdF, rdL, wA_fold, wF_fold, wL_fold, wC_fold]
  refine ⟨(ls256 C_h), _, (lr256_20 C_h), ?_⟩
  refine ⟨congrArg Prod.fst (ls266 C_h), ixs (ls266 C_h) (by decide) (by decide), ?_⟩
  obtain ⟨k4, w⟩ := w
  refine ⟨fun c2 => ?_, fun c2 => ?_⟩
  · have t3 : aI h 266 2 ≤ x3 := ((Jle (rg_toInt _) k4).mp c2)
    replace w := w.1 t3
    exact ⟨(Or.inr (by trivial)), w⟩
  · have t3 : ¬ aI h 266 2 ≤ x3 := (fun e => c2 ((Jle (rg_toInt _) k4).mpr e))
    replace w := w.2 t3
    obtain ⟨k8, w⟩ := w
    obtain ⟨k9, w⟩ := w
    refine m226 (h := h) (s := x2) (k := x3) C_h (by omega) k8 k9 ?_
    refine ⟨_, rfl, ?_⟩
    try simp only [aI_wAL, fI_wAL, aL_wA, aL_wF, aI_wA_ne, aI_wF_ne, fI_wA_ne, fI_wF_ne, fI_wF_nk, aL_wAL_ne, J_sameA, J_sameF, aL_same, Nat.add_left_cancel_iff, Nat.add_eq_left, Nat.left_eq_add, not_false_eq_true, Nat.reduceEqDiff, Nat.reduceAdd, J_add, J_sub, J_mul, J_neg, J_and, J_or, J_xor, J_shl, J_shr, J_div, J_i2b, J_i2l, J_l2i, J_lcm, J_max, J_min, J_nab, J_nao, rdA, rdF, rdL, wA_fold, wF_fold, wL_fold, wC_fold]
    refine ⟨fun c10 => ?_, fun c10 => ?_⟩
    · have t11 : ¬ (bt x2 x3) := ((bI0 _).mp c10)
      replace w := w.1 t11
      exact w
    · have t11 : (bt x2 x3) := (Classical.byContradiction fun n => c10 ((bI0 _).mpr n))
      replace w := w.2 t11
      refine ⟨(ls256 C_h), ?_⟩
      obtain ⟨k15, w⟩ := w
      obtain ⟨k16, w⟩ := w
      obtain ⟨k17, w⟩ := w
      refine m260 (h := h) (c := x1) (p := x3) C_h (by omega) k15 k16 k17 ?_
      refine ⟨_, rfl, ?_⟩
      try simp only [aI_wAL, fI_wAL, aL_wA, aL_wF, aI_wA_ne, aI_wF_ne, fI_wA_ne, fI_wF_ne, fI_wF_nk, aL_wAL_ne, J_sameA, J_sameF, aL_same, Nat.add_left_cancel_iff, Nat.add_eq_left, Nat.left_eq_add, not_false_eq_true, Nat.reduceEqDiff, Nat.reduceAdd, J_add, J_sub, J_mul, J_neg, J_and, J_or, J_xor, J_shl, J_shr, J_div, J_i2b, J_i2l, J_l2i, J_lcm, J_max, J_min, J_nab, J_nao, rdA, rdF, rdL, wA_fold, wF_fold, wL_fold, wC_fold]
      refine ⟨(ls256 C_h), ?_⟩
      obtain ⟨k21, w⟩ := w
      refine m209 (h := h) (p := x3) (w := 1) C_h (by omega) k21 ?_
      refine ⟨_, rfl, ?_⟩
      try simp only [aI_wAL, fI_wAL, aL_wA, aL_wF, aI_wA_ne, aI_wF_ne, fI_wA_ne, fI_wF_ne, fI_wF_nk, aL_wAL_ne, J_sameA, J_sameF, aL_same, Nat.add_left_cancel_iff, Nat.add_eq_left, Nat.left_eq_add, not_false_eq_true, Nat.reduceEqDiff, Nat.reduceAdd, J_add, J_sub, J_mul, J_neg, J_and, J_or, J_xor, J_shl, J_shr, J_div, J_i2b, J_i2l, J_l2i, J_lcm, J_max, J_min, J_nab, J_nao, rdA, rdF, rdL, wA_fold, wF_fold, wL_fold, wC_fold]
      refine ⟨fun c22 => ?_, fun c22 => ?_⟩
      · have t23 : dgt (aI h 266 0) x1 x3 = pS (aI h 266) x3 1 := ((Jeq (dgt_rg _ _ _) (aI_rg _ _ _)).mp c22)
        replace w := w.1 t23
        exact w
      · have t23 : ¬ dgt (aI h 266 0) x1 x3 = pS (aI h 266) x3 1 := (fun e => c22 ((Jeq (dgt_rg _ _ _) (aI_rg _ _ _)).mpr e))
        replace w := w.2 t23
        exact ⟨(Or.inl (by trivial)), w⟩
theorem m259 {X : Cst} {d : Nat} {N c s : Int} {h : AH} {Q : Post} (C : Lay h) (hd : 3 ≤ d) (W : WF N (aI h 266)) (hn : 0 < aI h 266 0) (hc : 0 ≤ c ∧ c < 32768) (hs' : 0 ≤ s ∧ s < 2147483648) (k : Q (some (.int (J (bI (∀ p, 0 ≤ p → p < aI h 266 2 → bt s p → dgt (aI h 266 0) c p = pS (aI h 266) p 1))))) h) : Ex X PG d 259 0 [some (.ref 256), some (.int (J c)), some (.int (J s)), none] [] h Q := by
  obtain ⟨d, rfl⟩ : ∃ e, d = e + 1 := ⟨d - 1, by omega⟩
  have b := W.1
  unfold WFb at b
  have lp : ∀ (z : Nat) (i : Int), aI h 266 2 - i = z → 0 ≤ i → (∀ p, 0 ≤ p → p < i → bt s p → dgt (aI h 266 0) c p = pS (aI h 266) p 1) → Ex X PG (d + 1) 259 2 [some (.ref 256), some (.int (J c)), some (.int (J s)), some (.int (J i))] [] h Q := by
    intro z
    induction z with
    | zero =>
      intro i e i0 a
      refine r259_2 C (by omega) ⟨by omega, fun _ => ?_, fun y => absurd (by omega) y⟩
      rw [bI_pos (fun p p0 p1 => a p p0 (by omega))] at k; exact k
    | succ z ih =>
      intro i e i0 a
      refine r259_2 C (by omega) ⟨by omega, fun y => absurd y (by omega), fun _ => ⟨hs', by omega, fun c1 => ?_, fun c1 => ⟨hc, by omega, by omega, by omega, fun c2 => ?_, fun c2 => ?_⟩⟩⟩
      · refine ih (i + 1) (by omega) (by omega) (fun p p0 p1 hb => ?_)
        by_cases q : p = i
        · subst q; exact absurd hb c1
        · exact a p p0 (by omega) hb
      · refine ih (i + 1) (by omega) (by omega) (fun p p0 p1 hb => ?_)
        by_cases q : p = i
        · subst q; exact c2
        · exact a p p0 (by omega) hb
      · rw [bI_neg (fun z => c2 (z i i0 (by omega) c1))] at k; exact k
  refine r259_0 C ?_
  exact lp (aI h 266 2).toNat 0 (by omega) (by omega) (fun p p0 p1 => by omega)
-- OutwardDoorsModel.isSet(I)Z at 0
set_option maxRecDepth 20000 in
set_option maxHeartbeats 4000000 in
theorem r255_0 {X : Cst} {d : Nat} {x1 : Int} {h : AH} {Q : Post} (C_h : Lay h) (hd : 1 ≤ d)
  (w : ((¬ (0 < aI h 266 0) → Q (some (.int (J 0))) h) ∧ ((0 < aI h 266 0) → (-2147483648 ≤ x1 ∧ x1 < 2147483648) ∧ ((x1 < 0 → Q (some (.int (J 0))) h) ∧ (¬ x1 < 0 → ((shl 1 (iand (aI h 266 2) 31) ≤ x1 → Q (some (.int (J 0))) h) ∧ (¬ shl 1 (iand (aI h 266 2) 31) ≤ x1 → Q (some (.int (J 1))) h))))))) :
    Ex X PG (d + 1) 255 0 [some (.ref 256), some (.int (J x1))] [] h Q := by
  refine wpx_ok (cut := []) 16 d 255 0 _ _ _ _ ?_
  show hs h 256 = (0, 11) ∧ Ex X PG d 231 0 [some (.ref 256)] [] h (fun v1 h2 => ∃ r3, v1 = some (.int r3) ∧ ((r3 = (J 0) → (J 0 = J 0 ∨ J 0 = J 1) ∧ Q (some (.int (J 0))) h2) ∧ (¬ (r3 = (J 0)) → (((J x1) < (J 0) → (J 0 = J 0 ∨ J 0 = J 1) ∧ Q (some (.int (J 0))) h2) ∧ (¬ ((J x1) < (J 0)) → hs h2 256 = (0, 11) ∧ ∃ q9, hR h2 256 20 = some q9 ∧ (hs h2 q9).1 = 1 ∧ ix (J 2) (hs h2 q9).2 ∧ ((((J 1) <<< ((hI h2 q9 (Int32.toNatClampNeg (J 2))) &&& J 31)) ≤ (J x1) → (J 0 = J 0 ∨ J 0 = J 1) ∧ Q (some (.int (J 0))) h2) ∧ (¬ (((J 1) <<< ((hI h2 q9 (Int32.toNatClampNeg (J 2))) &&& J 31)) ≤ (J x1)) → (J 1 = J 0 ∨ J 1 = J 1) ∧ Q (some (.int (J 1))) h2)))))))
  try simp only [aI_wAL, fI_wAL, aL_wA, aL_wF, aI_wA_ne, aI_wF_ne, fI_wA_ne, fI_wF_ne, fI_wF_nk, aL_wAL_ne, J_sameA, J_sameF, aL_same, Nat.add_left_cancel_iff, Nat.add_eq_left, Nat.left_eq_add, not_false_eq_true, Nat.reduceEqDiff, Nat.reduceAdd, J_add, J_sub, J_mul, J_neg, J_and, J_or, J_xor, J_shl, J_shr, J_div, J_i2b, J_i2l, J_l2i, J_lcm, J_max, J_min, J_nab, J_nao, rdA, rdF, rdL, wA_fold, wF_fold, wL_fold, wC_fold]
  refine ⟨(ls256 C_h), ?_⟩
  refine m231 (h := h)  C_h (by omega)  ?_
  refine ⟨_, rfl, ?_⟩
  try simp only [aI_wAL, fI_wAL, aL_wA, aL_wF, aI_wA_ne, aI_wF_ne, fI_wA_ne, fI_wF_ne, fI_wF_nk, aL_wAL_ne, J_sameA, J_sameF, aL_same, Nat.add_left_cancel_iff, Nat.add_eq_left, Nat.left_eq_add, not_false_eq_true, Nat.reduceEqDiff, Nat.reduceAdd, J_add, J_sub, J_mul, J_neg, J_and, J_or, J_xor, J_shl, J_shr, J_div, J_i2b, J_i2l, J_l2i, J_lcm, J_max, J_min, J_nab, J_nao, rdA, rdF, rdL, wA_fold, wF_fold, wL_fold, wC_fold]
  refine ⟨fun c4 => ?_, fun c4 => ?_⟩
  · have t5 : ¬ (0 < aI h 266 0) := ((bI0 _).mp c4)
    replace w := w.1 t5
    exact ⟨(Or.inl (by trivial)), w⟩
  · have t5 : (0 < aI h 266 0) := (Classical.byContradiction fun n => c4 ((bI0 _).mpr n))
    replace w := w.2 t5
    obtain ⟨k8, w⟩ := w
    refine ⟨fun c6 => ?_, fun c6 => ?_⟩
    · have t7 : x1 < 0 := ((Jlt k8 (by decide)).mp c6)
      replace w := w.1 t7
      exact ⟨(Or.inl (by trivial)), w⟩
    · have t7 : ¬ x1 < 0 := (fun e => c6 ((Jlt k8 (by decide)).mpr e))
      replace w := w.2 t7
      refine ⟨(ls256 C_h), _, (lr256_20 C_h), ?_⟩
      refine ⟨congrArg Prod.fst (ls266 C_h), ixs (ls266 C_h) (by decide) (by decide), ?_⟩
      refine ⟨fun c10 => ?_, fun c10 => ?_⟩
      · have t11 : shl 1 (iand (aI h 266 2) 31) ≤ x1 := ((Jle (rg_toInt _) k8).mp c10)
        replace w := w.1 t11
        exact ⟨(Or.inl (by trivial)), w⟩
      · have t11 : ¬ shl 1 (iand (aI h 266 2) 31) ≤ x1 := (fun e => c10 ((Jle (rg_toInt _) k8).mpr e))
        replace w := w.2 t11
        exact ⟨(Or.inr (by trivial)), w⟩
theorem m255 {X : Cst} {d : Nat} {N s : Int} {h : AH} {Q : Post} (C : Lay h) (hd : 2 ≤ d) (W : WF N (aI h 266)) (g : -2147483648 ≤ s ∧ s < 2147483648) (k : Q (some (.int (J (bI (0 < aI h 266 0 ∧ 0 ≤ s ∧ s < 2 ^ (aI h 266 2).toNat))))) h) : Ex X PG d 255 0 [some (.ref 256), some (.int (J s))] [] h Q := by
  obtain ⟨d, rfl⟩ : ∃ e, d = e + 1 := ⟨d - 1, by omega⟩
  have b := W.1
  unfold WFb at b
  refine r255_0 C (by omega) ⟨fun c => ?_, fun c => ⟨g, fun c2 => ?_, fun c2 => ?_⟩⟩
  · rw [bI_neg (fun z => c z.1)] at k; exact k
  · rw [bI_neg (fun z => absurd z.2.1 (by omega))] at k; exact k
  · rw [shl_1 (by omega), show (((2 ^ (aI h 266 2).toNat : Nat)) : Int) = 2 ^ (aI h 266 2).toNat by simp]
    refine ⟨fun c3 => ?_, fun c3 => ?_⟩
    · rw [bI_neg (fun z => absurd z.2.2 (by omega))] at k; exact k
    · rw [bI_pos ⟨c, by omega, by omega⟩] at k; exact k
