/-! THE REFERENCE: sets of people and rooms. -/
-- OutwardDoorsModel.isOf(II)Z at 0
set_option maxRecDepth 20000 in
set_option maxHeartbeats 4000000 in
theorem r226_0 {X : Cst} {d : Nat} {x0 : Int} {x1 : Int} {h : AH} {Q : Post} (C_h : Lay h)
  (w : ((¬ iand (shr x0 (iand x1 31)) 1 = 1 → Q (some (.int (J 0))) h) ∧ (iand (shr x0 (iand x1 31)) 1 = 1 → Q (some (.int (J 1))) h))) :
    Ex X PG (d + 1) 226 0 [some (.int (J x0)), some (.int (J x1))] [] h Q := by
  refine wpx_ok (cut := []) 10 d 226 0 _ _ _ _ ?_
  show ((¬ (((J x0) >>> ((J x1) &&& J 31)) &&& (J 1)) = (J 1) → (J 0 = J 0 ∨ J 0 = J 1) ∧ Q (some (.int (J 0))) h) ∧ (¬ (¬ (((J x0) >>> ((J x1) &&& J 31)) &&& (J 1)) = (J 1)) → (J 1 = J 0 ∨ J 1 = J 1) ∧ Q (some (.int (J 1))) h))
  try simp only [aI_wAL, fI_wAL, aL_wA, aL_wF, aI_wA_ne, aI_wF_ne, fI_wA_ne, fI_wF_ne, fI_wF_nk, aL_wAL_ne, J_sameA, J_sameF, aL_same, Nat.add_left_cancel_iff, Nat.add_eq_left, Nat.left_eq_add, not_false_eq_true, Nat.reduceEqDiff, Nat.reduceAdd, J_add, J_sub, J_mul, J_neg, J_and, J_or, J_xor, J_shl, J_shr, J_div, J_i2b, J_i2l, J_l2i, J_lcm, J_max, J_min, J_nab, J_nao, rdA, rdF, rdL, wA_fold, wF_fold, wL_fold, wC_fold]
  refine ⟨fun c1 => ?_, fun c1 => ?_⟩
  · have t2 : ¬ iand (shr x0 (iand x1 31)) 1 = 1 := (fun e => c1 ((Jeq (rg_toInt _) (by decide)).mpr e))
    replace w := w.1 t2
    exact ⟨(Or.inl (by trivial)), w⟩
  · have t2 : iand (shr x0 (iand x1 31)) 1 = 1 := ((Jeq (rg_toInt _) (by decide)).mp (Classical.byContradiction c1))
    replace w := w.2 t2
    exact ⟨(Or.inr (by trivial)), w⟩
theorem m226 {X : Cst} {d : Nat} {s k : Int} {h : AH} {Q : Post} (C : Lay h) (hd : 1 ≤ d) (g : 0 ≤ s ∧ s < 2147483648) (g2 : 0 ≤ k ∧ k < 16) (w : Q (some (.int (J (bI (bt s k))))) h) : Ex X PG d 226 0 [some (.int (J s)), some (.int (J k))] [] h Q := by
  obtain ⟨d, rfl⟩ : ∃ e, d = e + 1 := ⟨d - 1, by omega⟩
  refine r226_0 C ⟨fun c => ?_, fun c => ?_⟩
  · rw [isof_iff g g2] at c; rw [bI_neg c] at w; exact w
  · rw [isof_iff g g2] at c; rw [bI_pos c] at w; exact w
def pinP (S : Int → Int) (r : Int) : Nat → Prop := fun p => (p : Int) < S 2 ∧ pS S p 0 = r
noncomputable def pIn (S : Int → Int) (r : Int) : Int := (bset 4 (pinP S r) : Nat)
theorem pIn_rg (S : Int → Int) (r : Int) : -2147483648 ≤ pIn S r ∧ pIn S r < 2147483648 := by
  have := bset_lt16 (pinP S r); unfold pIn; omega
-- OutwardDoorsModel.peopleIn(I)I at 0
set_option maxRecDepth 20000 in
set_option maxHeartbeats 4000000 in
theorem r224_0 {X : Cst} {d : Nat} {x1 : Int} {h : AH} {Q : Post} (C_h : Lay h)
  (w : Ex X PG (d + 1) 224 4 [some (.ref 256), some (.int (J x1)), some (.int (J 0)), some (.int (J 0))] [] h Q) :
    Ex X PG (d + 1) 224 0 [some (.ref 256), some (.int (J x1)), none, none] [] h Q := by
  refine wpx_ok (cut := [4]) 4 d 224 0 _ _ _ _ ?_
  show Ex X PG (d + 1) 224 4 [some (.ref 256), some (.int (J x1)), some (.int (J 0)), some (.int (J 0))] [] h Q
  try simp only [aI_wAL, fI_wAL, aL_wA, aL_wF, aI_wA_ne, aI_wF_ne, fI_wA_ne, fI_wF_ne, fI_wF_nk, aL_wAL_ne, J_sameA, J_sameF, aL_same, Nat.add_left_cancel_iff, Nat.add_eq_left, Nat.left_eq_add, not_false_eq_true, Nat.reduceEqDiff, Nat.reduceAdd, J_add, J_sub, J_mul, J_neg, J_and, J_or, J_xor, J_shl, J_shr, J_div, J_i2b, J_i2l, J_l2i, J_lcm, J_max, J_min, J_nab, J_nao, rdA, rdF, rdL, wA_fold, wF_fold, wL_fold, wC_fold]
  exact w
-- OutwardDoorsModel.peopleIn(I)I at 4
set_option maxRecDepth 20000 in
set_option maxHeartbeats 4000000 in
theorem r224_4 {X : Cst} {d : Nat} {x1 : Int} {x2 : Int} {x3 : Int} {h : AH} {Q : Post} (C_h : Lay h) (hd : 1 ≤ d)
  (w : (-2147483648 ≤ x3 ∧ x3 < 2147483648) ∧ ((aI h 266 2 ≤ x3 → Q (some (.int (J x2))) h) ∧ (¬ aI h 266 2 ≤ x3 → (0 ≤ 10 + 6 * x3 + 0 ∧ 10 + 6 * x3 + 0 < 123) ∧ (-2147483648 ≤ x1 ∧ x1 < 2147483648) ∧ ((¬ pS (aI h 266) x3 0 = x1 → Ex X PG (d + 1) 224 4 [some (.ref 256), some (.int (J x1)), some (.int (J (ior x2 0))), some (.int (J (x3 + 1)))] [] h Q) ∧ (pS (aI h 266) x3 0 = x1 → Ex X PG (d + 1) 224 4 [some (.ref 256), some (.int (J x1)), some (.int (J (ior x2 (shl 1 (iand x3 31))))), some (.int (J (x3 + 1)))] [] h Q))))) :
    Ex X PG (d + 1) 224 4 [some (.ref 256), some (.int (J x1)), some (.int (J x2)), some (.int (J x3))] [] h Q := by
  refine wpx_ok (cut := [4]) 21 d 224 4 _ _ _ _ ?_
  show hs h 256 = (0, 11) ∧ ∃ q1, hR h 256 20 = some q1 ∧ (hs h q1).1 = 1 ∧ ix (J 2) (hs h q1).2 ∧ (((hI h q1 (Int32.toNatClampNeg (J 2))) ≤ (J x3) → Q (some (.int (J x2))) h) ∧ (¬ ((hI h q1 (Int32.toNatClampNeg (J 2))) ≤ (J x3)) → hs h 256 = (0, 11) ∧ Ex X PG d 209 0 [some (.ref 256), some (.int (J x3)), some (.int (J 0))] [] h (fun v5 h6 => ∃ r7, v5 = some (.int r7) ∧ ((¬ r7 = (J x1) → Ex X PG (d + 1) 224 4 [some (.ref 256), some (.int (J x1)), some (.int ((J x2) ||| (J 0))), some (.int ((J x3) + (J 1)))] [] h6 Q) ∧ (¬ (¬ r7 = (J x1)) → Ex X PG (d + 1) 224 4 [some (.ref 256), some (.int (J x1)), some (.int ((J x2) ||| ((J 1) <<< ((J x3) &&& J 31)))), some (.int ((J x3) + (J 1)))] [] h6 Q)))))
  try simp only [aI_wAL, fI_wAL, aL_wA, aL_wF, aI_wA_ne, aI_wF_ne, fI_wA_ne, fI_wF_ne, fI_wF_nk, aL_wAL_ne, J_sameA, J_sameF, aL_same, Nat.add_left_cancel_iff, Nat.add_eq_left, Nat.left_eq_add, not_false_eq_true, Nat.reduceEqDiff, Nat.reduceAdd, J_add, J_sub, J_mul, J_neg, J_and, J_or, J_xor, J_shl, J_shr, J_div, J_i2b, J_i2l, J_l2i, J_lcm, J_max, J_min, J_nab, J_nao, rdA, rdF, rdL, wA_fold, wF_fold, wL_fold, wC_fold]
  refine ⟨(ls256 C_h), _, (lr256_20 C_h), ?_⟩
  refine ⟨congrArg Prod.fst (ls266 C_h), ixs (ls266 C_h) (by decide) (by decide), ?_⟩
  obtain ⟨k4, w⟩ := w
  refine ⟨fun c2 => ?_, fun c2 => ?_⟩
  · have t3 : aI h 266 2 ≤ x3 := ((Jle (rg_toInt _) k4).mp c2)
    replace w := w.1 t3
    exact w
  · have t3 : ¬ aI h 266 2 ≤ x3 := (fun e => c2 ((Jle (rg_toInt _) k4).mpr e))
    replace w := w.2 t3
    refine ⟨(ls256 C_h), ?_⟩
    obtain ⟨k8, w⟩ := w
    refine m209 (h := h) (p := x3) (w := 0) C_h (by omega) k8 ?_
    refine ⟨_, rfl, ?_⟩
    try simp only [aI_wAL, fI_wAL, aL_wA, aL_wF, aI_wA_ne, aI_wF_ne, fI_wA_ne, fI_wF_ne, fI_wF_nk, aL_wAL_ne, J_sameA, J_sameF, aL_same, Nat.add_left_cancel_iff, Nat.add_eq_left, Nat.left_eq_add, not_false_eq_true, Nat.reduceEqDiff, Nat.reduceAdd, J_add, J_sub, J_mul, J_neg, J_and, J_or, J_xor, J_shl, J_shr, J_div, J_i2b, J_i2l, J_l2i, J_lcm, J_max, J_min, J_nab, J_nao, rdA, rdF, rdL, wA_fold, wF_fold, wL_fold, wC_fold]
    obtain ⟨k11, w⟩ := w
    refine ⟨fun c9 => ?_, fun c9 => ?_⟩
    · have t10 : ¬ pS (aI h 266) x3 0 = x1 := (fun e => c9 ((Jeq (aI_rg _ _ _) k11).mpr e))
      replace w := w.1 t10
      exact w
    · have t10 : pS (aI h 266) x3 0 = x1 := ((Jeq (aI_rg _ _ _) k11).mp (Classical.byContradiction c9))
      replace w := w.2 t10
      exact w
theorem q224_4 {X : Cst} {d : Nat} {r : Int} {h : AH} {Q : Post} (C : Lay h) (hd : 1 ≤ d) (W : WF 999 (aI h 266)) (hr : -2147483648 ≤ r ∧ r < 2147483648) (k : Q (some (.int (J (pIn (aI h 266) r)))) h) :
    ∀ (n : Nat) (i : Int), aI h 266 2 - i ≤ n → 0 ≤ i → i ≤ aI h 266 2 → Ex X PG (d + 1) 224 4 [some (.ref 256), some (.int (J r)), some (.int (J (bset i.toNat (pinP (aI h 266) r) : Nat))), some (.int (J i))] [] h Q := by
  have b := W.1
  unfold WFb at b
  have fin : ∀ i, 0 ≤ i → i = aI h 266 2 → Q (some (.int (J (bset i.toNat (pinP (aI h 266) r) : Nat)))) h := by
    intro i h0 e
    rw [bset_ext (m := 4) (by omega) (fun k h1 h2 z => by have := z.1; omega)]
    exact k
  intro n
  induction n with
  | zero => intro i h1 h2 h3; exact r224_4 C hd ⟨by omega, fun c => fin i h2 (by omega), fun c => absurd (by omega) c⟩
  | succ n ih =>
    intro i h1 h2 h3
    have e : (i + 1).toNat = i.toNat + 1 := by omega
    have ei : (i.toNat : Int) = i := by omega
    have bl := bset_lt (pinP (aI h 266) r) i.toNat
    have bp : (2 : Nat) ^ i.toNat ≤ 2 ^ 4 := Nat.pow_le_pow_right (by decide) (by omega)
    refine r224_4 C hd ⟨by omega, fun c => fin i h2 (by omega), fun c => ⟨by omega, hr, fun c2 => ?_, fun c2 => ?_⟩⟩
    · have np : ¬ pinP (aI h 266) r i.toNat := fun z => c2 (by have := z.2; rw [ei] at this; exact this)
      have := ih (i + 1) (by omega) (by omega) (by omega)
      rw [e, ← bset_no np] at this
      rw [show (0 : Int) = ((0 : Nat) : Int) from rfl, ior_nat (by omega) (by decide), Nat.or_zero]
      exact this
    · have np : pinP (aI h 266) r i.toNat := ⟨by omega, by rw [ei]; exact c2⟩
      have := ih (i + 1) (by omega) (by omega) (by omega)
      rw [e, ← bset_or np] at this
      rw [shl_1 (by omega), ior_nat (by omega) (by omega)]
      exact this
theorem m224 {X : Cst} {d : Nat} {r : Int} {h : AH} {Q : Post} (C : Lay h) (hd : 2 ≤ d) (W : WF 999 (aI h 266)) (hr : -2147483648 ≤ r ∧ r < 2147483648) (k : Q (some (.int (J (pIn (aI h 266) r)))) h) : Ex X PG d 224 0 [some (.ref 256), some (.int (J r)), none, none] [] h Q := by
  obtain ⟨d, rfl⟩ : ∃ e, d = e + 1 := ⟨d - 1, by omega⟩
  have b := W.1
  unfold WFb at b
  exact r224_0 C (q224_4 C (by omega) W hr k (aI h 266 2).toNat 0 (by omega) (by omega) (by omega))
/-- OUTSIDE: rounds over the doors -/
noncomputable def odr (S : Int → Int) (t : Prop) : Nat → Nat → Nat
  | 0, s => s
  | n + 1, s => @ite Nat (opn S t n ∧ bt (odr S t n s) (nr S n)) (Classical.propDecidable _) (odr S t n s ||| 2 ^ (fr S n).toNat) (odr S t n s)
noncomputable def ord (S : Int → Int) (t : Prop) : Nat → Nat → Nat
  | 0, s => s
  | k + 1, s => odr S t (S 1).toNat (ord S t k s)
noncomputable def outw (S : Int → Int) (t : Prop) (r : Int) : Int := ((ord S t 8 (2 ^ r.toNat) &&& (2 ^ r.toNat ^^^ 4294967295) : Nat) : Int)
theorem odr_lt {S : Int → Int} {t : Prop} {s : Nat} (hs : s < 256) : ∀ n : Nat, (∀ d : Int, 0 ≤ d → d < n → 0 ≤ fr S d ∧ fr S d < 8) → odr S t n s < 256 := by
  intro n
  induction n with
  | zero => intro _; exact hs
  | succ n ih =>
    intro h
    have a := ih (fun d h1 h2 => h d h1 (by omega))
    have b := h n (by omega) (by omega)
    unfold odr
    split
    · exact Nat.or_lt_two_pow (n := 8) a (Nat.pow_lt_pow_right (by decide) (by omega))
    · exact a
-- OutwardDoorsModel.outsideOf(I)I at 0
set_option maxRecDepth 20000 in
set_option maxHeartbeats 4000000 in
theorem r225_0 {X : Cst} {d : Nat} {x1 : Int} {h : AH} {Q : Post} (C_h : Lay h)
  (w : Ex X PG (d + 1) 225 6 [some (.ref 256), some (.int (J x1)), some (.int (J (shl 1 (iand x1 31)))), some (.int (J 0)), none] [] h Q) :
    Ex X PG (d + 1) 225 0 [some (.ref 256), some (.int (J x1)), none, none, none] [] h Q := by
  refine wpx_ok (cut := [6, 15]) 6 d 225 0 _ _ _ _ ?_
  show Ex X PG (d + 1) 225 6 [some (.ref 256), some (.int (J x1)), some (.int ((J 1) <<< ((J x1) &&& J 31))), some (.int (J 0)), none] [] h Q
  try simp only [aI_wAL, fI_wAL, aL_wA, aL_wF, aI_wA_ne, aI_wF_ne, fI_wA_ne, fI_wF_ne, fI_wF_nk, aL_wAL_ne, J_sameA, J_sameF, aL_same, Nat.add_left_cancel_iff, Nat.add_eq_left, Nat.left_eq_add, not_false_eq_true, Nat.reduceEqDiff, Nat.reduceAdd, J_add, J_sub, J_mul, J_neg, J_and, J_or, J_xor, J_shl, J_shr, J_div, J_i2b, J_i2l, J_l2i, J_lcm, J_max, J_min, J_nab, J_nao, rdA, rdF, rdL, wA_fold, wF_fold, wL_fold, wC_fold]
  exact w
-- OutwardDoorsModel.outsideOf(I)I at 6
set_option maxRecDepth 20000 in
set_option maxHeartbeats 4000000 in
theorem r225_6 {X : Cst} {d : Nat} {x1 : Int} {x2 : Int} {x3 : Int} {l4 : Option Value} {h : AH} {Q : Post} (C_h : Lay h)
  (w : (-2147483648 ≤ x3 ∧ x3 < 2147483648) ∧ ((8 ≤ x3 → Q (some (.int (J (iand x2 (ixr (shl 1 (iand x1 31)) (-1)))))) h) ∧ (¬ 8 ≤ x3 → Ex X PG (d + 1) 225 15 [some (.ref 256), some (.int (J x1)), some (.int (J x2)), some (.int (J x3)), some (.int (J 0))] [] h Q))) :
    Ex X PG (d + 1) 225 6 [some (.ref 256), some (.int (J x1)), some (.int (J x2)), some (.int (J x3)), l4] [] h Q := by
  refine wpx_ok (cut := [6, 15]) 11 d 225 6 _ _ _ _ ?_
  show (((J 8) ≤ (J x3) → Q (some (.int ((J x2) &&& (((J 1) <<< ((J x1) &&& J 31)) ^^^ (J (-1)))))) h) ∧ (¬ ((J 8) ≤ (J x3)) → Ex X PG (d + 1) 225 15 [some (.ref 256), some (.int (J x1)), some (.int (J x2)), some (.int (J x3)), some (.int (J 0))] [] h Q))
  try simp only [aI_wAL, fI_wAL, aL_wA, aL_wF, aI_wA_ne, aI_wF_ne, fI_wA_ne, fI_wF_ne, fI_wF_nk, aL_wAL_ne, J_sameA, J_sameF, aL_same, Nat.add_left_cancel_iff, Nat.add_eq_left, Nat.left_eq_add, not_false_eq_true, Nat.reduceEqDiff, Nat.reduceAdd, J_add, J_sub, J_mul, J_neg, J_and, J_or, J_xor, J_shl, J_shr, J_div, J_i2b, J_i2l, J_l2i, J_lcm, J_max, J_min, J_nab, J_nao, rdA, rdF, rdL, wA_fold, wF_fold, wL_fold, wC_fold]
  obtain ⟨k3, w⟩ := w
  refine ⟨fun c1 => ?_, fun c1 => ?_⟩
  · have t2 : 8 ≤ x3 := ((Jle (by decide) k3).mp c1)
    replace w := w.1 t2
    exact w
  · have t2 : ¬ 8 ≤ x3 := (fun e => c1 ((Jle (by decide) k3).mpr e))
    replace w := w.2 t2
    exact w
-- OutwardDoorsModel.outsideOf(I)I at 15
set_option maxRecDepth 20000 in
set_option maxHeartbeats 4000000 in
theorem r225_15 {X : Cst} {d : Nat} {x1 : Int} {x2 : Int} {x3 : Int} {x4 : Int} {h : AH} {Q : Post} (C_h : Lay h) (hd : 2 ≤ d)
  (w : (-2147483648 ≤ x4 ∧ x4 < 2147483648) ∧ ((aI h 266 1 ≤ x4 → Ex X PG (d + 1) 225 6 [some (.ref 256), some (.int (J x1)), some (.int (J x2)), some (.int (J (x3 + 1))), some (.int (J x4))] [] h Q) ∧ (¬ aI h 266 1 ≤ x4 → (WF 999 (aI h 266)) ∧ (0 ≤ x4 ∧ x4 < aI h 266 1) ∧ ((¬ (opn (aI h 266) (nightP (aI h 266)) x4) → Ex X PG (d + 1) 225 15 [some (.ref 256), some (.int (J x1)), some (.int (J x2)), some (.int (J x3)), some (.int (J (x4 + 1)))] [] h Q) ∧ ((opn (aI h 266) (nightP (aI h 266)) x4) → (0 ≤ x4 ∧ x4 < 14) ∧ (0 ≤ x2 ∧ x2 < 2147483648) ∧ (0 ≤ (nr (aI h 266) x4) ∧ (nr (aI h 266) x4) < 16) ∧ ((¬ (bt x2 (nr (aI h 266) x4)) → Ex X PG (d + 1) 225 15 [some (.ref 256), some (.int (J x1)), some (.int (J x2)), some (.int (J x3)), some (.int (J (x4 + 1)))] [] h Q) ∧ ((bt x2 (nr (aI h 266) x4)) → Ex X PG (d + 1) 225 15 [some (.ref 256), some (.int (J x1)), some (.int (J (ior x2 (shl 1 (iand (fr (aI h 266) x4) 31))))), some (.int (J x3)), some (.int (J (x4 + 1)))] [] h Q))))))) :
    Ex X PG (d + 1) 225 15 [some (.ref 256), some (.int (J x1)), some (.int (J x2)), some (.int (J x3)), some (.int (J x4))] [] h Q := by
  refine wpx_ok (cut := [6, 15]) 26 d 225 15 _ _ _ _ ?_
  show hs h 256 = (0, 11) ∧ ∃ q1, hR h 256 20 = some q1 ∧ (hs h q1).1 = 1 ∧ ix (J 1) (hs h q1).2 ∧ (((hI h q1 (Int32.toNatClampNeg (J 1))) ≤ (J x4) → Ex X PG (d + 1) 225 6 [some (.ref 256), some (.int (J x1)), some (.int (J x2)), some (.int ((J x3) + (J 1))), some (.int (J x4))] [] h Q) ∧ (¬ ((hI h q1 (Int32.toNatClampNeg (J 1))) ≤ (J x4)) → hs h 256 = (0, 11) ∧ Ex X PG d 217 0 [some (.ref 256), some (.int (J x4))] [] h (fun v5 h6 => ∃ r7, v5 = some (.int r7) ∧ ((r7 = (J 0) → Ex X PG (d + 1) 225 15 [some (.ref 256), some (.int (J x1)), some (.int (J x2)), some (.int (J x3)), some (.int ((J x4) + (J 1)))] [] h6 Q) ∧ (¬ (r7 = (J 0)) → hs h6 256 = (0, 11) ∧ Ex X PG d 218 0 [some (.ref 256), some (.int (J x4))] [] h6 (fun v12 h13 => ∃ r14, v12 = some (.int r14) ∧ Ex X PG d 226 0 [some (.int (J x2)), some (.int r14)] [] h13 (fun v16 h17 => ∃ r18, v16 = some (.int r18) ∧ ((r18 = (J 0) → Ex X PG (d + 1) 225 15 [some (.ref 256), some (.int (J x1)), some (.int (J x2)), some (.int (J x3)), some (.int ((J x4) + (J 1)))] [] h17 Q) ∧ (¬ (r18 = (J 0)) → hs h17 256 = (0, 11) ∧ Ex X PG d 219 0 [some (.ref 256), some (.int (J x4))] [] h17 (fun v23 h24 => ∃ r25, v23 = some (.int r25) ∧ Ex X PG (d + 1) 225 15 [some (.ref 256), some (.int (J x1)), some (.int ((J x2) ||| ((J 1) <<< (r25 &&& J 31)))), some (.int (J x3)), some (.int ((J x4) + (J 1)))] [] h24 Q))))))))))
  try simp only [aI_wAL, fI_wAL, aL_wA, aL_wF, aI_wA_ne, aI_wF_ne, fI_wA_ne, fI_wF_ne, fI_wF_nk, aL_wAL_ne, J_sameA, J_sameF, aL_same, Nat.add_left_cancel_iff, Nat.add_eq_left, Nat.left_eq_add, not_false_eq_true, Nat.reduceEqDiff, Nat.reduceAdd, J_add, J_sub, J_mul, J_neg, J_and, J_or, J_xor, J_shl, J_shr, J_div, J_i2b, J_i2l, J_l2i, J_lcm, J_max, J_min, J_nab, J_nao, rdA, rdF, rdL, wA_fold, wF_fold, wL_fold, wC_fold]
  refine ⟨(ls256 C_h), _, (lr256_20 C_h), ?_⟩
  refine ⟨congrArg Prod.fst (ls266 C_h), ixs (ls266 C_h) (by decide) (by decide), ?_⟩
  obtain ⟨k4, w⟩ := w
  refine ⟨fun c2 => ?_, fun c2 => ?_⟩
  · have t3 : aI h 266 1 ≤ x4 := ((Jle (rg_toInt _) k4).mp c2)
    replace w := w.1 t3
    exact w
  · have t3 : ¬ aI h 266 1 ≤ x4 := (fun e => c2 ((Jle (rg_toInt _) k4).mpr e))
    replace w := w.2 t3
    refine ⟨(ls256 C_h), ?_⟩
    obtain ⟨k8, w⟩ := w
    obtain ⟨k9, w⟩ := w
    refine m217 (h := h) (x := x4) C_h (by omega) k8 k9 ?_
    refine ⟨_, rfl, ?_⟩
    try simp only [aI_wAL, fI_wAL, aL_wA, aL_wF, aI_wA_ne, aI_wF_ne, fI_wA_ne, fI_wF_ne, fI_wF_nk, aL_wAL_ne, J_sameA, J_sameF, aL_same, Nat.add_left_cancel_iff, Nat.add_eq_left, Nat.left_eq_add, not_false_eq_true, Nat.reduceEqDiff, Nat.reduceAdd, J_add, J_sub, J_mul, J_neg, J_and, J_or, J_xor, J_shl, J_shr, J_div, J_i2b, J_i2l, J_l2i, J_lcm, J_max, J_min, J_nab, J_nao, rdA, rdF, rdL, wA_fold, wF_fold, wL_fold, wC_fold]
    refine ⟨fun c10 => ?_, fun c10 => ?_⟩
    · have t11 : ¬ (opn (aI h 266) (nightP (aI h 266)) x4) := ((bI0 _).mp c10)
      replace w := w.1 t11
      exact w
    · have t11 : (opn (aI h 266) (nightP (aI h 266)) x4) := (Classical.byContradiction fun n => c10 ((bI0 _).mpr n))
      replace w := w.2 t11
      refine ⟨(ls256 C_h), ?_⟩
      obtain ⟨k15, w⟩ := w
      refine m218 (h := h) (x := x4) C_h (by omega) k15 ?_
      refine ⟨_, rfl, ?_⟩
      try simp only [aI_wAL, fI_wAL, aL_wA, aL_wF, aI_wA_ne, aI_wF_ne, fI_wA_ne, fI_wF_ne, fI_wF_nk, aL_wAL_ne, J_sameA, J_sameF, aL_same, Nat.add_left_cancel_iff, Nat.add_eq_left, Nat.left_eq_add, not_false_eq_true, Nat.reduceEqDiff, Nat.reduceAdd, J_add, J_sub, J_mul, J_neg, J_and, J_or, J_xor, J_shl, J_shr, J_div, J_i2b, J_i2l, J_l2i, J_lcm, J_max, J_min, J_nab, J_nao, rdA, rdF, rdL, wA_fold, wF_fold, wL_fold, wC_fold]
      obtain ⟨k19, w⟩ := w
      obtain ⟨k20, w⟩ := w
      refine m226 (h := h) (s := x2) (k := (nr (aI h 266) x4)) C_h (by omega) k19 k20 ?_
      refine ⟨_, rfl, ?_⟩
      try simp only [aI_wAL, fI_wAL, aL_wA, aL_wF, aI_wA_ne, aI_wF_ne, fI_wA_ne, fI_wF_ne, fI_wF_nk, aL_wAL_ne, J_sameA, J_sameF, aL_same, Nat.add_left_cancel_iff, Nat.add_eq_left, Nat.left_eq_add, not_false_eq_true, Nat.reduceEqDiff, Nat.reduceAdd, J_add, J_sub, J_mul, J_neg, J_and, J_or, J_xor, J_shl, J_shr, J_div, J_i2b, J_i2l, J_l2i, J_lcm, J_max, J_min, J_nab, J_nao, rdA, rdF, rdL, wA_fold, wF_fold, wL_fold, wC_fold]
      refine ⟨fun c21 => ?_, fun c21 => ?_⟩
      · have t22 : ¬ (bt x2 (nr (aI h 266) x4)) := ((bI0 _).mp c21)
        replace w := w.1 t22
        exact w
      · have t22 : (bt x2 (nr (aI h 266) x4)) := (Classical.byContradiction fun n => c21 ((bI0 _).mpr n))
        replace w := w.2 t22
        refine ⟨(ls256 C_h), ?_⟩
        refine m219 (h := h) (x := x4) C_h (by omega) k15 ?_
        refine ⟨_, rfl, ?_⟩
        try simp only [aI_wAL, fI_wAL, aL_wA, aL_wF, aI_wA_ne, aI_wF_ne, fI_wA_ne, fI_wF_ne, fI_wF_nk, aL_wAL_ne, J_sameA, J_sameF, aL_same, Nat.add_left_cancel_iff, Nat.add_eq_left, Nat.left_eq_add, not_false_eq_true, Nat.reduceEqDiff, Nat.reduceAdd, J_add, J_sub, J_mul, J_neg, J_and, J_or, J_xor, J_shl, J_shr, J_div, J_i2b, J_i2l, J_l2i, J_lcm, J_max, J_min, J_nab, J_nao, rdA, rdF, rdL, wA_fold, wF_fold, wL_fold, wC_fold]
        exact w
theorem q225_15 {X : Cst} {d : Nat} {r v : Int} {s : Nat} {h : AH} {Q : Post} (C : Lay h) (hd : 2 ≤ d) (W : WF 999 (aI h 266)) (hs : s < 256)
    (k : ∀ l4, Ex X PG (d + 1) 225 6 [some (.ref 256), some (.int (J r)), some (.int (J (odr (aI h 266) (nightP (aI h 266)) (aI h 266 1).toNat s : Nat))), some (.int (J (v + 1))), l4] [] h Q) :
    ∀ (n : Nat) (i : Int), aI h 266 1 - i ≤ n → 0 ≤ i → i ≤ aI h 266 1 → Ex X PG (d + 1) 225 15 [some (.ref 256), some (.int (J r)), some (.int (J (odr (aI h 266) (nightP (aI h 266)) i.toNat s : Nat))), some (.int (J v)), some (.int (J i))] [] h Q := by
  have b := W.1
  unfold WFb at b
  intro n
  induction n with
  | zero => intro i h1 h2 h3; have q : i = aI h 266 1 := by omega
            subst q; exact r225_15 C hd ⟨by omega, fun c => k _, fun c => absurd (by omega) c⟩
  | succ n ih =>
    intro i h1 h2 h3
    have e : (i + 1).toNat = i.toNat + 1 := by omega
    have ei : (i.toNat : Int) = i := by omega
    refine r225_15 C hd ⟨by omega, fun c => ?_, fun c => ⟨W, by omega, fun c2 => ?_, fun c2 => ?_⟩⟩
    · have q : i = aI h 266 1 := by omega
      subst q; exact k _
    · have := ih (i + 1) (by omega) (by omega) (by omega)
      rw [e] at this
      unfold odr at this
      rw [ei, if_neg (fun z => c2 z.1)] at this
      exact this
    · have dd := W.2.2.2.1 i (by omega) (by omega)
      have ol := odr_lt (S := aI h 266) (t := nightP (aI h 266)) hs i.toNat (fun d h1 h2 => by have := W.2.2.2.1 d h1 (by omega); omega)
      have := ih (i + 1) (by omega) (by omega) (by omega)
      rw [e] at this
      unfold odr at this
      rw [ei] at this
      refine ⟨by omega, by omega, by omega, fun c3 => ?_, fun c3 => ?_⟩
      · rw [if_neg (fun z => c3 z.2)] at this; exact this
      · rw [if_pos ⟨c2, c3⟩] at this
        have fl : (2 : Nat) ^ (fr (aI h 266) i).toNat < 2 ^ 8 := Nat.pow_lt_pow_right (by decide) (by omega)
        rw [shl_1 (by omega), ior_nat (by omega) (by omega)]
        exact this
theorem ord_lt {N : Int} {S : Int → Int} {t : Prop} {s : Nat} (W : WF N S) (hs : s < 256) : ∀ k, ord S t k s < 256 := by
  have b := W.1
  unfold WFb at b
  intro k
  induction k with
  | zero => exact hs
  | succ k ih => exact odr_lt ih _ (fun d h1 h2 => by have := W.2.2.2.1 d h1 (by omega); omega)
theorem q225_6 {X : Cst} {d : Nat} {r : Int} {h : AH} {Q : Post} (C : Lay h) (hd : 2 ≤ d) (W : WF 999 (aI h 266)) (hr : 0 ≤ r ∧ r < 8) (k : Q (some (.int (J (outw (aI h 266) (nightP (aI h 266)) r)))) h) :
    ∀ (n : Nat) (i : Int) (l4 : Option Value), 8 - i ≤ n → 0 ≤ i → i ≤ 8 → Ex X PG (d + 1) 225 6 [some (.ref 256), some (.int (J r)), some (.int (J (ord (aI h 266) (nightP (aI h 266)) i.toNat (2 ^ r.toNat) : Nat))), some (.int (J i)), l4] [] h Q := by
  have rl : (2 : Nat) ^ r.toNat < 2 ^ 8 := Nat.pow_lt_pow_right (by decide) (by omega)
  have fin : ∀ i l4, i = 8 → Ex X PG (d + 1) 225 6 [some (.ref 256), some (.int (J r)), some (.int (J (ord (aI h 266) (nightP (aI h 266)) i.toNat (2 ^ r.toNat) : Nat))), some (.int (J i)), l4] [] h Q := by
    intro i l4 e
    subst e
    have ol := ord_lt (t := nightP (aI h 266)) W (s := 2 ^ r.toNat) (by omega) 8
    refine r225_6 C ⟨by omega, fun c => ?_, fun c => absurd (by omega) c⟩
    rw [shl_1 (by omega), show (8 : Int).toNat = 8 from rfl, iandn_nat (by omega)]
    exact k
  intro n
  induction n with
  | zero => intro i l4 h1 h2 h3; exact fin i l4 (by omega)
  | succ n ih =>
    intro i l4 h1 h2 h3
    by_cases q : i = 8
    · exact fin i l4 q
    · have b := W.1
      unfold WFb at b
      refine r225_6 C ⟨by omega, fun c => absurd c (by omega), fun c => ?_⟩
      refine q225_15 C hd W (ord_lt W (by omega) _) (fun l4 => ?_) (aI h 266 1).toNat 0 (by omega) (by omega) (by omega)
      have := ih (i + 1) l4 (by omega) (by omega) (by omega)
      have e : (i + 1).toNat = i.toNat + 1 := by omega
      rw [e] at this
      exact this
theorem outw_rg {S : Int → Int} {t : Prop} {r : Int} (W : WF 999 S) (hr : 0 ≤ r ∧ r < 8) : -2147483648 ≤ outw S t r ∧ outw S t r < 2147483648 := by
  have rl : (2 : Nat) ^ r.toNat < 2 ^ 8 := Nat.pow_lt_pow_right (by decide) (by omega)
  have ol := ord_lt (t := t) W (s := 2 ^ r.toNat) (by omega) 8
  have : ord S t 8 (2 ^ r.toNat) &&& (2 ^ r.toNat ^^^ 4294967295) ≤ ord S t 8 (2 ^ r.toNat) := Nat.and_le_left
  unfold outw
  omega
theorem m225 {X : Cst} {d : Nat} {r : Int} {h : AH} {Q : Post} (C : Lay h) (hd : 3 ≤ d) (W : WF 999 (aI h 266)) (hr : 0 ≤ r ∧ r < 8) (k : Q (some (.int (J (outw (aI h 266) (nightP (aI h 266)) r)))) h) : Ex X PG d 225 0 [some (.ref 256), some (.int (J r)), none, none, none] [] h Q := by
  obtain ⟨d, rfl⟩ : ∃ e, d = e + 1 := ⟨d - 1, by omega⟩
  refine r225_0 C ?_
  rw [shl_1 (by omega)]
  exact q225_6 C (by omega) W hr k 8 0 none (by omega) (by omega) (by omega)
/-- how many of four bits -/
def pc4 (s : Int) : Int := s % 2 + s / 2 % 2 + s / 4 % 2 + s / 8 % 2
theorem pc4_s {s : Int} (h : 0 < s ∧ s < 16) : 0 ≤ iand s (s - 1) ∧ iand s (s - 1) < s ∧ pc4 s = pc4 (iand s (s - 1)) + 1 := by
  have : s = 1 ∨ s = 2 ∨ s = 3 ∨ s = 4 ∨ s = 5 ∨ s = 6 ∨ s = 7 ∨ s = 8 ∨ s = 9 ∨ s = 10 ∨ s = 11 ∨ s = 12 ∨ s = 13 ∨ s = 14 ∨ s = 15 := by omega
  rcases this with rfl | rfl | rfl | rfl | rfl | rfl | rfl | rfl | rfl | rfl | rfl | rfl | rfl | rfl | rfl <;> decide
-- OutwardDoorsModel.bits(I)I at 0
set_option maxRecDepth 20000 in
set_option maxHeartbeats 4000000 in
theorem r236_0 {X : Cst} {d : Nat} {x0 : Int} {h : AH} {Q : Post} (C_h : Lay h)
  (w : Ex X PG (d + 1) 236 4 [some (.int (J x0)), some (.int (J 0)), some (.int (J x0))] [] h Q) :
    Ex X PG (d + 1) 236 0 [some (.int (J x0)), none, none] [] h Q := by
  refine wpx_ok (cut := [4]) 4 d 236 0 _ _ _ _ ?_
  show Ex X PG (d + 1) 236 4 [some (.int (J x0)), some (.int (J 0)), some (.int (J x0))] [] h Q
  try simp only [aI_wAL, fI_wAL, aL_wA, aL_wF, aI_wA_ne, aI_wF_ne, fI_wA_ne, fI_wF_ne, fI_wF_nk, aL_wAL_ne, J_sameA, J_sameF, aL_same, Nat.add_left_cancel_iff, Nat.add_eq_left, Nat.left_eq_add, not_false_eq_true, Nat.reduceEqDiff, Nat.reduceAdd, J_add, J_sub, J_mul, J_neg, J_and, J_or, J_xor, J_shl, J_shr, J_div, J_i2b, J_i2l, J_l2i, J_lcm, J_max, J_min, J_nab, J_nao, rdA, rdF, rdL, wA_fold, wF_fold, wL_fold, wC_fold]
  exact w
-- OutwardDoorsModel.bits(I)I at 4
set_option maxRecDepth 20000 in
set_option maxHeartbeats 4000000 in
theorem r236_4 {X : Cst} {d : Nat} {x0 : Int} {x1 : Int} {x2 : Int} {h : AH} {Q : Post} (C_h : Lay h)
  (w : (-2147483648 ≤ x2 ∧ x2 < 2147483648) ∧ ((x2 = 0 → Q (some (.int (J x1))) h) ∧ (¬ x2 = 0 → Ex X PG (d + 1) 236 4 [some (.int (J x0)), some (.int (J (x1 + 1))), some (.int (J (iand x2 (x2 - 1))))] [] h Q))) :
    Ex X PG (d + 1) 236 4 [some (.int (J x0)), some (.int (J x1)), some (.int (J x2))] [] h Q := by
  refine wpx_ok (cut := [4]) 10 d 236 4 _ _ _ _ ?_
  show (((J x2) = (J 0) → Q (some (.int (J x1))) h) ∧ (¬ ((J x2) = (J 0)) → Ex X PG (d + 1) 236 4 [some (.int (J x0)), some (.int ((J x1) + (J 1))), some (.int ((J x2) &&& ((J x2) - (J 1))))] [] h Q))
  try simp only [aI_wAL, fI_wAL, aL_wA, aL_wF, aI_wA_ne, aI_wF_ne, fI_wA_ne, fI_wF_ne, fI_wF_nk, aL_wAL_ne, J_sameA, J_sameF, aL_same, Nat.add_left_cancel_iff, Nat.add_eq_left, Nat.left_eq_add, not_false_eq_true, Nat.reduceEqDiff, Nat.reduceAdd, J_add, J_sub, J_mul, J_neg, J_and, J_or, J_xor, J_shl, J_shr, J_div, J_i2b, J_i2l, J_l2i, J_lcm, J_max, J_min, J_nab, J_nao, rdA, rdF, rdL, wA_fold, wF_fold, wL_fold, wC_fold]
  obtain ⟨k3, w⟩ := w
  refine ⟨fun c1 => ?_, fun c1 => ?_⟩
  · have t2 : x2 = 0 := ((Jeq k3 (by decide)).mp c1)
    replace w := w.1 t2
    exact w
  · have t2 : ¬ x2 = 0 := (fun e => c1 ((Jeq k3 (by decide)).mpr e))
    replace w := w.2 t2
    exact w
theorem q236_4 {X : Cst} {d : Nat} {z : Int} {h : AH} {Q : Post} (C : Lay h) : ∀ (n : Nat) (s c : Int), s ≤ n → 0 ≤ s → s < 16 → Q (some (.int (J (c + pc4 s)))) h → Ex X PG (d + 1) 236 4 [some (.int (J z)), some (.int (J c)), some (.int (J s))] [] h Q := by
  intro n
  induction n with
  | zero =>
    intro s c h1 h2 h3 k
    have e : s = 0 := by omega
    subst e
    refine r236_4 C ⟨by omega, fun _ => ?_, fun q => absurd rfl q⟩
    rw [show c + pc4 0 = c from Int.add_zero c] at k; exact k
  | succ n ih =>
    intro s c h1 h2 h3 k
    refine r236_4 C ⟨by omega, fun e => ?_, fun e => ?_⟩
    · subst e; rw [show c + pc4 0 = c from Int.add_zero c] at k; exact k
    · have p := pc4_s (s := s) (by omega)
      refine ih _ _ (by omega) p.1 (by omega) ?_
      rw [show c + 1 + pc4 (iand s (s - 1)) = c + pc4 s by omega]; exact k
theorem m236 {X : Cst} {d : Nat} {s : Int} {h : AH} {Q : Post} (C : Lay h) (hd : 1 ≤ d) (g : 0 ≤ s ∧ s < 16) (k : Q (some (.int (J (pc4 s)))) h) : Ex X PG d 236 0 [some (.int (J s)), none, none] [] h Q := by
  obtain ⟨d, rfl⟩ : ∃ e, d = e + 1 := ⟨d - 1, by omega⟩
  refine r236_0 C (q236_4 C 16 s 0 (by omega) g.1 g.2 ?_)
  rw [Int.zero_add]; exact k
