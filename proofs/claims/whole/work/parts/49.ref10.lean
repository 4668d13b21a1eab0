/-! THE REFERENCE: acts kept and undone, copies laid back, counts. -/
/-- the first n places of A, the rest of B -/
def mix (n : Nat) (A B : Int → Int) : Int → Int := fun k => if tn k < n then A k else B k
theorem mix_0 (A B : Int → Int) : mix 0 A B = B := by funext k; unfold mix; exact if_neg (Nat.not_lt_zero _)
theorem mix_s {A B : Int → Int} (hA : Tn A) {i : Int} (hi : 0 ≤ i ∧ i < 2147483648) : uu_ (mix i.toNat A B) i (A i) = mix (i.toNat + 1) A B := by
  funext k
  have t : tn i = i.toNat := tn_eq ⟨by omega, hi.2⟩
  unfold uu_ mix
  rw [t]
  by_cases c : tn k = i.toNat
  · rw [if_pos c, if_pos (by omega), hA k, c, show ((i.toNat : Nat) : Int) = i by omega]
  · rw [if_neg c]
    by_cases c2 : tn k < i.toNat
    · rw [if_pos c2, if_pos (by omega)]
    · rw [if_neg c2, if_neg (by omega)]
theorem mix_lt {n : Nat} {A B : Int → Int} {k : Int} (h : 0 ≤ k ∧ k < n) (hn : n ≤ 2147483648) : mix n A B k = A k := if_pos (tn_lt h hn)
theorem mix_ge {n : Nat} {A B : Int → Int} {k : Int} (h : (n : Int) ≤ k ∧ k < 2147483648) : mix n A B k = B k := by
  unfold mix
  rw [tn_eq ⟨by omega, h.2⟩]
  exact if_neg (by omega)
def shf (W : Int → Int) (c : Int) : Int → Int := fun k => W (c + ((tn k : Nat) : Int))
theorem Tn_shf (W : Int → Int) (c : Int) : Tn (shf W c) := by
  intro k
  unfold shf
  have : tn ((tn k : Nat) : Int) = tn k := by
    rw [tn_eq ⟨by omega, by have := tn_b k; omega⟩]; omega
  rw [this]
theorem shf_k {W : Int → Int} {c k : Int} (h : 0 ≤ k ∧ k < 2147483648) : shf W c k = W (c + k) := by unfold shf; rw [tn_self h]
-- OutwardDoorsModel.countOf(I)I at 0
set_option maxRecDepth 20000 in
set_option maxHeartbeats 4000000 in
theorem r284_0 {X : Cst} {d : Nat} {x1 : Int} {h : AH} {Q : Post} (C_h : Lay h)
  (w : Ex X PG (d + 1) 284 4 [some (.ref 256), some (.int (J x1)), some (.int (J 0)), some (.int (J 0))] [] h Q) :
    Ex X PG (d + 1) 284 0 [some (.ref 256), some (.int (J x1)), none, none] [] h Q := by
  refine wpx_ok (cut := [4]) 4 d 284 0 _ _ _ _ ?_
  show Ex X PG (d + 1) 284 4 [some (.ref 256), some (.int (J x1)), some (.int (J 0)), some (.int (J 0))] [] h Q
  try simp only [aI_wAL, fI_wAL, aL_wA, aL_wF, aI_wA_ne, aI_wF_ne, fI_wA_ne, fI_wF_ne, fI_wF_nk, aL_wAL_ne, J_sameA, J_sameF, aL_same, Nat.add_left_cancel_iff, Nat.add_eq_left, Nat.left_eq_add, not_false_eq_true, Nat.reduceEqDiff, Nat.reduceAdd, J_add, J_sub, J_mul, J_neg, J_and, J_or, J_xor, J_shl, J_shr, J_div, J_i2b, J_i2l, J_l2i, J_lcm, J_max, J_min, J_nab, J_nao, rdA, rdF, rdL, wA_fold, wF_fold, wL_fold, wC_fold]
  exact w
-- OutwardDoorsModel.countOf(I)I at 4
set_option maxRecDepth 20000 in
set_option maxHeartbeats 4000000 in
theorem r284_4 {X : Cst} {d : Nat} {x1 : Int} {x2 : Int} {x3 : Int} {h : AH} {Q : Post} (C_h : Lay h) (hd : 1 ≤ d)
  (w : (-2147483648 ≤ x3 ∧ x3 < 2147483648) ∧ ((aI h 266 2 ≤ x3 → Q (some (.int (J x2))) h) ∧ (¬ aI h 266 2 ≤ x3 → (0 ≤ 10 + 6 * x3 + x1 ∧ 10 + 6 * x3 + x1 < 123) ∧ Ex X PG (d + 1) 284 4 [some (.ref 256), some (.int (J x1)), some (.int (J (x2 + (pS (aI h 266) x3 x1)))), some (.int (J (x3 + 1)))] [] h Q))) :
    Ex X PG (d + 1) 284 4 [some (.ref 256), some (.int (J x1)), some (.int (J x2)), some (.int (J x3))] [] h Q := by
  refine wpx_ok (cut := [4]) 15 d 284 4 _ _ _ _ ?_
  show hs h 256 = (0, 11) ∧ ∃ q1, hR h 256 20 = some q1 ∧ (hs h q1).1 = 1 ∧ ix (J 2) (hs h q1).2 ∧ (((hI h q1 (Int32.toNatClampNeg (J 2))) ≤ (J x3) → Q (some (.int (J x2))) h) ∧ (¬ ((hI h q1 (Int32.toNatClampNeg (J 2))) ≤ (J x3)) → hs h 256 = (0, 11) ∧ Ex X PG d 209 0 [some (.ref 256), some (.int (J x3)), some (.int (J x1))] [] h (fun v5 h6 => ∃ r7, v5 = some (.int r7) ∧ Ex X PG (d + 1) 284 4 [some (.ref 256), some (.int (J x1)), some (.int ((J x2) + r7)), some (.int ((J x3) + (J 1)))] [] h6 Q)))
  try simp only [aI_wAL, fI_wAL, aL_wA, aL_wF, aI_wA_ne, aI_wF_ne, fI_wA_ne, fI_wF_ne, fI_wF_nk, aL_wAL_ne, J_sameA, J_sameF, aL_same, Nat.add_left_cancel_iff, Nat.add_eq_left, Nat.left_eq_add, not_false_eq_true, Nat.reduceEqDiff, Nat.reduceAdd, J_add, J_sub, J_mul, J_neg, J_and, J_or, J_xor, J_shl, J_shr, J_div, J_i2b, J_i2l, J_l2i, J_lcm, J_max, J_min, J_nab, J_nao, rdA, rdF, rdL, wA_fold, wF_fold, wL_fold, wC_fold]
  refine ⟨(ls256 C_h), _, (lr256_20 C_h), ?_⟩
  refine ⟨congrArg Prod.fst (ls266 C_h), ixs (ls266 C_h) (by decide) (by decide), ?_⟩
  obtain ⟨k4, w⟩ := w
  refine ⟨fun c2 => ?_, fun c2 => ?_⟩
  · have t3 : aI h 266 2 ≤ x3 := ((Jle (rg_toInt _) k4).mp c2)
    replace w := w.1 t3
    exact w
  · have t3 : ¬ aI h 266 2 ≤ x3 := (fun e => c2 ((Jle (rg_toInt _) k4).mpr e))
    replace w := w.2 t3
    refine ⟨(ls256 C_h), ?_⟩
    obtain ⟨k8, w⟩ := w
    refine m209 (h := h) (p := x3) (w := x1) C_h (by omega) k8 ?_
    refine ⟨_, rfl, ?_⟩
    try simp only [aI_wAL, fI_wAL, aL_wA, aL_wF, aI_wA_ne, aI_wF_ne, fI_wA_ne, fI_wF_ne, fI_wF_nk, aL_wAL_ne, J_sameA, J_sameF, aL_same, Nat.add_left_cancel_iff, Nat.add_eq_left, Nat.left_eq_add, not_false_eq_true, Nat.reduceEqDiff, Nat.reduceAdd, J_add, J_sub, J_mul, J_neg, J_and, J_or, J_xor, J_shl, J_shr, J_div, J_i2b, J_i2l, J_l2i, J_lcm, J_max, J_min, J_nab, J_nao, rdA, rdF, rdL, wA_fold, wF_fold, wL_fold, wC_fold]
    exact w
theorem m284 {X : Cst} {d : Nat} {w : Int} {h : AH} {Q : Post} (C : Lay h) (hd : 2 ≤ d) (W : WF 999 (aI h 266)) (hw : 0 ≤ w ∧ w < 6) (k : Q (some (.int (J (sumN (aI h 266 2).toNat (fun p => pS (aI h 266) p w))))) h) : Ex X PG d 284 0 [some (.ref 256), some (.int (J w)), none, none] [] h Q := by
  obtain ⟨d, rfl⟩ : ∃ e, d = e + 1 := ⟨d - 1, by omega⟩
  have b := W.1
  unfold WFb at b
  have lp : ∀ (n : Nat) (i : Int), aI h 266 2 - i = n → 0 ≤ i → Ex X PG (d + 1) 284 4 [some (.ref 256), some (.int (J w)), some (.int (J (sumN i.toNat (fun p => pS (aI h 266) p w)))), some (.int (J i))] [] h Q := by
    intro n
    induction n with
    | zero =>
      intro i h1 h2
      refine r284_4 C (by omega) ⟨by omega, fun _ => ?_, fun c => absurd (by omega) c⟩
      rw [show i = aI h 266 2 by omega]; exact k
    | succ n ih =>
      intro i h1 h2
      have := ih (i + 1) (by omega) (by omega)
      rw [show (i + 1).toNat = i.toNat + 1 by omega] at this
      unfold sumN at this
      rw [show (i.toNat : Int) = i by omega] at this
      exact r284_4 C (by omega) ⟨by omega, fun c => absurd c (by omega), fun _ => ⟨by omega, this⟩⟩
  exact r284_0 C (lp (aI h 266 2).toNat 0 (by omega) (by omega))
-- OutwardDoorsModel.keeps()V at 0
set_option maxRecDepth 20000 in
set_option maxHeartbeats 4000000 in
theorem r251_0 {X : Cst} {d : Nat}  {h : AH} {Q : Post} (C_h : Lay h)
  (w : Ex X PG (d + 1) 251 2 [some (.ref 256), some (.int (J 0))] [] h Q) :
    Ex X PG (d + 1) 251 0 [some (.ref 256), none] [] h Q := by
  refine wpx_ok (cut := [2]) 2 d 251 0 _ _ _ _ ?_
  show Ex X PG (d + 1) 251 2 [some (.ref 256), some (.int (J 0))] [] h Q
  try simp only [aI_wAL, fI_wAL, aL_wA, aL_wF, aI_wA_ne, aI_wF_ne, fI_wA_ne, fI_wF_ne, fI_wF_nk, aL_wAL_ne, J_sameA, J_sameF, aL_same, Nat.add_left_cancel_iff, Nat.add_eq_left, Nat.left_eq_add, not_false_eq_true, Nat.reduceEqDiff, Nat.reduceAdd, J_add, J_sub, J_mul, J_neg, J_and, J_or, J_xor, J_shl, J_shr, J_div, J_i2b, J_i2l, J_l2i, J_lcm, J_max, J_min, J_nab, J_nao, rdA, rdF, rdL, wA_fold, wF_fold, wL_fold, wC_fold]
  exact w
-- OutwardDoorsModel.keeps()V at 2
set_option maxRecDepth 20000 in
set_option maxHeartbeats 4000000 in
theorem r251_2 {X : Cst} {d : Nat} {x1 : Int} {h : AH} {Q : Post} (C_h : Lay h)
  (w : (-2147483648 ≤ x1 ∧ x1 < 2147483648) ∧ ((34 ≤ x1 → Q none h) ∧ (¬ 34 ≤ x1 → (0 ≤ x1 ∧ x1 < 123) ∧ (0 ≤ x1 ∧ x1 < 34) ∧ Ex X PG (d + 1) 251 2 [some (.ref 256), some (.int (J (x1 + 1)))] [] (wA h 271 x1 (aI h 266 x1)) Q))) :
    Ex X PG (d + 1) 251 2 [some (.ref 256), some (.int (J x1))] [] h Q := by
  refine wpx_ok (cut := [2]) 13 d 251 2 _ _ _ _ ?_
  show (((J 34) ≤ (J x1) → Q none h) ∧ (¬ ((J 34) ≤ (J x1)) → hs h 256 = (0, 11) ∧ ∃ q4, hR h 256 28 = some q4 ∧ hs h 256 = (0, 11) ∧ ∃ q5, hR h 256 20 = some q5 ∧ (hs h q5).1 = 1 ∧ ix (J x1) (hs h q5).2 ∧ (hs h q4).1 = 1 ∧ ix (J x1) (hs h q4).2 ∧ Ex X PG (d + 1) 251 2 [some (.ref 256), some (.int ((J x1) + (J 1)))] [] (wI h q4 (Int32.toNatClampNeg (J x1)) (hI h q5 (Int32.toNatClampNeg (J x1)))) Q))
  try simp only [aI_wAL, fI_wAL, aL_wA, aL_wF, aI_wA_ne, aI_wF_ne, fI_wA_ne, fI_wF_ne, fI_wF_nk, aL_wAL_ne, J_sameA, J_sameF, aL_same, Nat.add_left_cancel_iff, Nat.add_eq_left, Nat.left_eq_add, not_false_eq_true, Nat.reduceEqDiff, Nat.reduceAdd, J_add, J_sub, J_mul, J_neg, J_and, J_or, J_xor, J_shl, J_shr, J_div, J_i2b, J_i2l, J_l2i, J_lcm, J_max, J_min, J_nab, J_nao, rdA, rdF, rdL, wA_fold, wF_fold, wL_fold, wC_fold]
  obtain ⟨k3, w⟩ := w
  refine ⟨fun c1 => ?_, fun c1 => ?_⟩
  · have t2 : 34 ≤ x1 := ((Jle (by decide) k3).mp c1)
    replace w := w.1 t2
    exact w
  · have t2 : ¬ 34 ≤ x1 := (fun e => c1 ((Jle (by decide) k3).mpr e))
    replace w := w.2 t2
    refine ⟨(ls256 C_h), _, (lr256_28 C_h), ?_⟩
    refine ⟨(ls256 C_h), _, (lr256_20 C_h), ?_⟩
    obtain ⟨k6, w⟩ := w
    refine ⟨congrArg Prod.fst (ls266 C_h), ixs (ls266 C_h) k6 (by decide), ?_⟩
    obtain ⟨k7, w⟩ := w
    refine ⟨congrArg Prod.fst (ls271 C_h), ixs (ls271 C_h) k7 (by decide), ?_⟩
    exact w
theorem m251 {X : Cst} {d : Nat} {h : AH} {Q : Post} (C : Lay h) (hd : 1 ≤ d) (k : ∀ h', SH h h' → (Fr (fun c _ => c = 271) h h' ∧ aI h' 271 = mix 34 (aI h 266) (aI h 271)) → Q none h') : Ex X PG d 251 0 [some (.ref 256), none] [] h Q := by
  obtain ⟨d, rfl⟩ : ∃ e, d = e + 1 := ⟨d - 1, by omega⟩
  have lp : ∀ (n : Nat) (i : Int) (h' : AH), Fr (fun c _ => c = 271) h h' → 34 - i = n → 0 ≤ i → aI h' 271 = mix i.toNat (aI h 266) (aI h 271) → Ex X PG (d + 1) 251 2 [some (.ref 256), some (.int (J i))] [] h' Q := by
    intro n
    induction n with
    | zero =>
      intro i h' F h1 h2 e
      refine r251_2 (F.C C) ⟨by omega, fun _ => k h' F.1 ⟨F, ?_⟩, fun c => absurd (by omega) c⟩
      rw [e, show i.toNat = 34 by omega]
    | succ n ih =>
      intro i h' F h1 h2 e
      refine r251_2 (F.C C) ⟨by omega, fun c => absurd c (by omega), fun _ => ⟨by omega, by omega, ?_⟩⟩
      refine ih (i + 1) _ (F.wA rfl) (by omega) (by omega) ?_
      rw [aI_wA (aI_rg _ _ _), e, F.a 266 (fun _ => by decide), mix_s (Tn_aI h 266) (by omega), show (i + 1).toNat = i.toNat + 1 by omega]
  exact r251_0 C (lp 34 0 h Fr.rf (by omega) (by omega) (mix_0 _ _).symm)
-- OutwardDoorsModel.laysBack()V at 0
set_option maxRecDepth 20000 in
set_option maxHeartbeats 4000000 in
theorem r252_0 {X : Cst} {d : Nat}  {h : AH} {Q : Post} (C_h : Lay h)
  (w : Ex X PG (d + 1) 252 2 [some (.ref 256), some (.int (J 0))] [] h Q) :
    Ex X PG (d + 1) 252 0 [some (.ref 256), none] [] h Q := by
  refine wpx_ok (cut := [2]) 2 d 252 0 _ _ _ _ ?_
  show Ex X PG (d + 1) 252 2 [some (.ref 256), some (.int (J 0))] [] h Q
  try simp only [aI_wAL, fI_wAL, aL_wA, aL_wF, aI_wA_ne, aI_wF_ne, fI_wA_ne, fI_wF_ne, fI_wF_nk, aL_wAL_ne, J_sameA, J_sameF, aL_same, Nat.add_left_cancel_iff, Nat.add_eq_left, Nat.left_eq_add, not_false_eq_true, Nat.reduceEqDiff, Nat.reduceAdd, J_add, J_sub, J_mul, J_neg, J_and, J_or, J_xor, J_shl, J_shr, J_div, J_i2b, J_i2l, J_l2i, J_lcm, J_max, J_min, J_nab, J_nao, rdA, rdF, rdL, wA_fold, wF_fold, wL_fold, wC_fold]
  exact w
-- OutwardDoorsModel.laysBack()V at 2
set_option maxRecDepth 20000 in
set_option maxHeartbeats 4000000 in
theorem r252_2 {X : Cst} {d : Nat} {x1 : Int} {h : AH} {Q : Post} (C_h : Lay h)
  (w : (-2147483648 ≤ x1 ∧ x1 < 2147483648) ∧ ((34 ≤ x1 → Q none h) ∧ (¬ 34 ≤ x1 → (0 ≤ x1 ∧ x1 < 34) ∧ (0 ≤ x1 ∧ x1 < 123) ∧ Ex X PG (d + 1) 252 2 [some (.ref 256), some (.int (J (x1 + 1)))] [] (wA h 266 x1 (aI h 271 x1)) Q))) :
    Ex X PG (d + 1) 252 2 [some (.ref 256), some (.int (J x1))] [] h Q := by
  refine wpx_ok (cut := [2]) 13 d 252 2 _ _ _ _ ?_
  show (((J 34) ≤ (J x1) → Q none h) ∧ (¬ ((J 34) ≤ (J x1)) → hs h 256 = (0, 11) ∧ ∃ q4, hR h 256 20 = some q4 ∧ hs h 256 = (0, 11) ∧ ∃ q5, hR h 256 28 = some q5 ∧ (hs h q5).1 = 1 ∧ ix (J x1) (hs h q5).2 ∧ (hs h q4).1 = 1 ∧ ix (J x1) (hs h q4).2 ∧ Ex X PG (d + 1) 252 2 [some (.ref 256), some (.int ((J x1) + (J 1)))] [] (wI h q4 (Int32.toNatClampNeg (J x1)) (hI h q5 (Int32.toNatClampNeg (J x1)))) Q))
  try simp only [aI_wAL, fI_wAL, aL_wA, aL_wF, aI_wA_ne, aI_wF_ne, fI_wA_ne, fI_wF_ne, fI_wF_nk, aL_wAL_ne, J_sameA, J_sameF, aL_same, Nat.add_left_cancel_iff, Nat.add_eq_left, Nat.left_eq_add, not_false_eq_true, Nat.reduceEqDiff, Nat.reduceAdd, J_add, J_sub, J_mul, J_neg, J_and, J_or, J_xor, J_shl, J_shr, J_div, J_i2b, J_i2l, J_l2i, J_lcm, J_max, J_min, J_nab, J_nao, rdA, rdF, rdL, wA_fold, wF_fold, wL_fold, wC_fold]
  obtain ⟨k3, w⟩ := w
  refine ⟨fun c1 => ?_, fun c1 => ?_⟩
  · have t2 : 34 ≤ x1 := ((Jle (by decide) k3).mp c1)
    replace w := w.1 t2
    exact w
  · have t2 : ¬ 34 ≤ x1 := (fun e => c1 ((Jle (by decide) k3).mpr e))
    replace w := w.2 t2
    refine ⟨(ls256 C_h), _, (lr256_20 C_h), ?_⟩
    refine ⟨(ls256 C_h), _, (lr256_28 C_h), ?_⟩
    obtain ⟨k6, w⟩ := w
    refine ⟨congrArg Prod.fst (ls271 C_h), ixs (ls271 C_h) k6 (by decide), ?_⟩
    obtain ⟨k7, w⟩ := w
    refine ⟨congrArg Prod.fst (ls266 C_h), ixs (ls266 C_h) k7 (by decide), ?_⟩
    exact w
theorem m252 {X : Cst} {d : Nat} {h : AH} {Q : Post} (C : Lay h) (hd : 1 ≤ d) (k : ∀ h', SH h h' → (Fr (fun c j => c = 266 ∧ j < 34) h h' ∧ aI h' 266 = mix 34 (aI h 271) (aI h 266)) → Q none h') : Ex X PG d 252 0 [some (.ref 256), none] [] h Q := by
  obtain ⟨d, rfl⟩ : ∃ e, d = e + 1 := ⟨d - 1, by omega⟩
  have lp : ∀ (n : Nat) (i : Int) (h' : AH), Fr (fun c j => c = 266 ∧ j < 34) h h' → 34 - i = n → 0 ≤ i → aI h' 266 = mix i.toNat (aI h 271) (aI h 266) → Ex X PG (d + 1) 252 2 [some (.ref 256), some (.int (J i))] [] h' Q := by
    intro n
    induction n with
    | zero =>
      intro i h' F h1 h2 e
      refine r252_2 (F.C C) ⟨by omega, fun _ => k h' F.1 ⟨F, ?_⟩, fun c => absurd (by omega) c⟩
      rw [e, show i.toNat = 34 by omega]
    | succ n ih =>
      intro i h' F h1 h2 e
      have t : tn i = i.toNat := tn_eq (by omega)
      refine r252_2 (F.C C) ⟨by omega, fun c => absurd c (by omega), fun _ => ⟨by omega, by omega, ?_⟩⟩
      refine ih (i + 1) _ (F.wA ⟨rfl, by omega⟩) (by omega) (by omega) ?_
      rw [aI_wA (aI_rg _ _ _), e, F.a 271 (fun _ z => by omega), mix_s (Tn_aI h 271) (by omega), show (i + 1).toNat = i.toNat + 1 by omega]
  exact r252_0 C (lp 34 0 h Fr.rf (by omega) (by omega) (mix_0 _ _).symm)
/-- an act is kept: the oldest of twenty goes -/
def Push (u : Int) (W W' S : Int → Int) (u' : Int) : Prop := u' = (if u = 20 then 20 else u + 1) ∧ (∀ j k, 0 ≤ j → j < u' - 1 → 0 ≤ k → k < 34 → W' (34 * j + k) = W (34 * (j + (if u = 20 then 1 else 0)) + k)) ∧ ∀ k, 0 ≤ k → k < 34 → W' (34 * (u' - 1) + k) = S k
-- OutwardDoorsModel.keepsAct()V at 0
set_option maxRecDepth 20000 in
set_option maxHeartbeats 4000000 in
theorem r232_0 {X : Cst} {d : Nat}  {h : AH} {Q : Post} (C_h : Lay h)
  (w : ((¬ fI h 256 27 = 20 → Ex X PG (d + 1) 232 52 [some (.ref 256), some (.int (J 0))] [] h Q) ∧ (fI h 256 27 = 20 → Ex X PG (d + 1) 232 12 [some (.ref 256), some (.int (J 34))] [] h Q))) :
    Ex X PG (d + 1) 232 0 [some (.ref 256), none] [] h Q := by
  refine wpx_ok (cut := [12, 52]) 6 d 232 0 _ _ _ _ ?_
  show hs h 256 = (0, 11) ∧ ((¬ (hF h 256 27) = (J 20) → Ex X PG (d + 1) 232 52 [some (.ref 256), some (.int (J 0))] [] h Q) ∧ (¬ (¬ (hF h 256 27) = (J 20)) → Ex X PG (d + 1) 232 12 [some (.ref 256), some (.int (J 34))] [] h Q))
  try simp only [aI_wAL, fI_wAL, aL_wA, aL_wF, aI_wA_ne, aI_wF_ne, fI_wA_ne, fI_wF_ne, fI_wF_nk, aL_wAL_ne, J_sameA, J_sameF, aL_same, Nat.add_left_cancel_iff, Nat.add_eq_left, Nat.left_eq_add, not_false_eq_true, Nat.reduceEqDiff, Nat.reduceAdd, J_add, J_sub, J_mul, J_neg, J_and, J_or, J_xor, J_shl, J_shr, J_div, J_i2b, J_i2l, J_l2i, J_lcm, J_max, J_min, J_nab, J_nao, rdA, rdF, rdL, wA_fold, wF_fold, wL_fold, wC_fold]
  refine ⟨(ls256 C_h), ?_⟩
  refine ⟨fun c1 => ?_, fun c1 => ?_⟩
  · have t2 : ¬ fI h 256 27 = 20 := (fun e => c1 ((Jeq (rg_toInt _) (by decide)).mpr e))
    replace w := w.1 t2
    exact w
  · have t2 : fI h 256 27 = 20 := ((Jeq (rg_toInt _) (by decide)).mp (Classical.byContradiction c1))
    replace w := w.2 t2
    exact w
-- OutwardDoorsModel.keepsAct()V at 12
set_option maxRecDepth 20000 in
set_option maxHeartbeats 4000000 in
theorem r232_12 {X : Cst} {d : Nat} {x1 : Int} {h : AH} {Q : Post} (C_h : Lay h)
  (w : (-2147483648 ≤ x1 ∧ x1 < 2147483648) ∧ ((680 ≤ x1 → Ex X PG (d + 1) 232 52 [some (.ref 256), some (.int (J 0))] [] (wF h 256 27 ((fI h 256 27) - 1)) Q) ∧ (¬ 680 ≤ x1 → (0 ≤ x1 ∧ x1 < 680) ∧ (0 ≤ x1 - 34 ∧ x1 - 34 < 680) ∧ Ex X PG (d + 1) 232 12 [some (.ref 256), some (.int (J (x1 + 1)))] [] (wA h 270 (x1 - 34) (aI h 270 x1)) Q))) :
    Ex X PG (d + 1) 232 12 [some (.ref 256), some (.int (J x1))] [] h Q := by
  refine wpx_ok (cut := [12, 52]) 15 d 232 12 _ _ _ _ ?_
  show (((J 680) ≤ (J x1) → hs h 256 = (0, 11) ∧ hs h 256 = (0, 11) ∧ Ex X PG (d + 1) 232 52 [some (.ref 256), some (.int (J 0))] [] (wG h 256 27 ((hF h 256 27) - (J 1))) Q) ∧ (¬ ((J 680) ≤ (J x1)) → hs h 256 = (0, 11) ∧ ∃ q4, hR h 256 26 = some q4 ∧ hs h 256 = (0, 11) ∧ ∃ q5, hR h 256 26 = some q5 ∧ (hs h q5).1 = 1 ∧ ix (J x1) (hs h q5).2 ∧ (hs h q4).1 = 1 ∧ ix ((J x1) - (J 34)) (hs h q4).2 ∧ Ex X PG (d + 1) 232 12 [some (.ref 256), some (.int ((J x1) + (J 1)))] [] (wI h q4 (Int32.toNatClampNeg ((J x1) - (J 34))) (hI h q5 (Int32.toNatClampNeg (J x1)))) Q))
  try simp only [aI_wAL, fI_wAL, aL_wA, aL_wF, aI_wA_ne, aI_wF_ne, fI_wA_ne, fI_wF_ne, fI_wF_nk, aL_wAL_ne, J_sameA, J_sameF, aL_same, Nat.add_left_cancel_iff, Nat.add_eq_left, Nat.left_eq_add, not_false_eq_true, Nat.reduceEqDiff, Nat.reduceAdd, J_add, J_sub, J_mul, J_neg, J_and, J_or, J_xor, J_shl, J_shr, J_div, J_i2b, J_i2l, J_l2i, J_lcm, J_max, J_min, J_nab, J_nao, rdA, rdF, rdL, wA_fold, wF_fold, wL_fold, wC_fold]
  obtain ⟨k3, w⟩ := w
  refine ⟨fun c1 => ?_, fun c1 => ?_⟩
  · have t2 : 680 ≤ x1 := ((Jle (by decide) k3).mp c1)
    replace w := w.1 t2
    refine ⟨(ls256 C_h), ?_⟩
    refine ⟨(ls256 C_h), ?_⟩
    exact w
  · have t2 : ¬ 680 ≤ x1 := (fun e => c1 ((Jle (by decide) k3).mpr e))
    replace w := w.2 t2
    refine ⟨(ls256 C_h), _, (lr256_26 C_h), ?_⟩
    refine ⟨(ls256 C_h), _, (lr256_26 C_h), ?_⟩
    obtain ⟨k6, w⟩ := w
    refine ⟨congrArg Prod.fst (ls270 C_h), ixs (ls270 C_h) k6 (by decide), ?_⟩
    obtain ⟨k7, w⟩ := w
    refine ⟨congrArg Prod.fst (ls270 C_h), ixs (ls270 C_h) k7 (by decide), ?_⟩
    exact w
-- OutwardDoorsModel.keepsAct()V at 52
set_option maxRecDepth 20000 in
set_option maxHeartbeats 4000000 in
theorem r232_52 {X : Cst} {d : Nat} {x1 : Int} {h : AH} {Q : Post} (C_h : Lay h)
  (w : (-2147483648 ≤ x1 ∧ x1 < 2147483648) ∧ ((34 ≤ x1 → Q none (wF h 256 27 ((fI h 256 27) + 1))) ∧ (¬ 34 ≤ x1 → (0 ≤ x1 ∧ x1 < 123) ∧ (0 ≤ (34 * (fI h 256 27)) + x1 ∧ (34 * (fI h 256 27)) + x1 < 680) ∧ Ex X PG (d + 1) 232 52 [some (.ref 256), some (.int (J (x1 + 1)))] [] (wA h 270 ((34 * (fI h 256 27)) + x1) (aI h 266 x1)) Q))) :
    Ex X PG (d + 1) 232 52 [some (.ref 256), some (.int (J x1))] [] h Q := by
  refine wpx_ok (cut := [12, 52]) 18 d 232 52 _ _ _ _ ?_
  show (((J 34) ≤ (J x1) → hs h 256 = (0, 11) ∧ hs h 256 = (0, 11) ∧ Q none (wG h 256 27 ((hF h 256 27) + (J 1)))) ∧ (¬ ((J 34) ≤ (J x1)) → hs h 256 = (0, 11) ∧ ∃ q4, hR h 256 26 = some q4 ∧ hs h 256 = (0, 11) ∧ hs h 256 = (0, 11) ∧ ∃ q5, hR h 256 20 = some q5 ∧ (hs h q5).1 = 1 ∧ ix (J x1) (hs h q5).2 ∧ (hs h q4).1 = 1 ∧ ix (((J 34) * (hF h 256 27)) + (J x1)) (hs h q4).2 ∧ Ex X PG (d + 1) 232 52 [some (.ref 256), some (.int ((J x1) + (J 1)))] [] (wI h q4 (Int32.toNatClampNeg (((J 34) * (hF h 256 27)) + (J x1))) (hI h q5 (Int32.toNatClampNeg (J x1)))) Q))
  try simp only [aI_wAL, fI_wAL, aL_wA, aL_wF, aI_wA_ne, aI_wF_ne, fI_wA_ne, fI_wF_ne, fI_wF_nk, aL_wAL_ne, J_sameA, J_sameF, aL_same, Nat.add_left_cancel_iff, Nat.add_eq_left, Nat.left_eq_add, not_false_eq_true, Nat.reduceEqDiff, Nat.reduceAdd, J_add, J_sub, J_mul, J_neg, J_and, J_or, J_xor, J_shl, J_shr, J_div, J_i2b, J_i2l, J_l2i, J_lcm, J_max, J_min, J_nab, J_nao, rdA, rdF, rdL, wA_fold, wF_fold, wL_fold, wC_fold]
  obtain ⟨k3, w⟩ := w
  refine ⟨fun c1 => ?_, fun c1 => ?_⟩
  · have t2 : 34 ≤ x1 := ((Jle (by decide) k3).mp c1)
    replace w := w.1 t2
    refine ⟨(ls256 C_h), ?_⟩
    refine ⟨(ls256 C_h), ?_⟩
    exact w
  · have t2 : ¬ 34 ≤ x1 := (fun e => c1 ((Jle (by decide) k3).mpr e))
    replace w := w.2 t2
    refine ⟨(ls256 C_h), _, (lr256_26 C_h), ?_⟩
    refine ⟨(ls256 C_h), ?_⟩
    refine ⟨(ls256 C_h), _, (lr256_20 C_h), ?_⟩
    obtain ⟨k6, w⟩ := w
    refine ⟨congrArg Prod.fst (ls266 C_h), ixs (ls266 C_h) k6 (by decide), ?_⟩
    obtain ⟨k7, w⟩ := w
    refine ⟨congrArg Prod.fst (ls270 C_h), ixs (ls270 C_h) k7 (by decide), ?_⟩
    exact w
theorem m232 {X : Cst} {d : Nat} {h : AH} {Q : Post} (C : Lay h) (hd : 1 ≤ d) (hu : 0 ≤ fI h 256 27 ∧ fI h 256 27 ≤ 20)
    (k : ∀ h', SH h h' → (Fr (fun c j => c = 270 ∨ (c = 256 ∧ j = 27)) h h' ∧ Push (fI h 256 27) (aI h 270) (aI h' 270) (aI h 266) (fI h' 256 27)) → Q none h') : Ex X PG d 232 0 [some (.ref 256), none] [] h Q := by
  obtain ⟨d, rfl⟩ : ∃ e, d = e + 1 := ⟨d - 1, by omega⟩
  have l2 : ∀ (u : Int), 0 ≤ u → u < 20 → ∀ (W : Int → Int) (n : Nat) (i : Int) (h' : AH), Fr (fun c j => c = 270 ∨ (c = 256 ∧ j = 27)) h h' → fI h' 256 27 = u → 34 - i = n → 0 ≤ i → (∀ k, 0 ≤ k → k < i → aI h' 270 (34 * u + k) = aI h 266 k) → (∀ k, 0 ≤ k → k < 680 → (k < 34 * u ∨ 34 * u + i ≤ k) → aI h' 270 k = W k) →
      (∀ h'', Fr (fun c j => c = 270 ∨ (c = 256 ∧ j = 27)) h h'' → fI h'' 256 27 = u + 1 → (∀ k, 0 ≤ k → k < 34 → aI h'' 270 (34 * u + k) = aI h 266 k) → (∀ k, 0 ≤ k → k < 34 * u → aI h'' 270 k = W k) → Q none h'') →
      Ex X PG (d + 1) 232 52 [some (.ref 256), some (.int (J i))] [] h' Q := by
    intro u u0 u1 W n
    induction n with
    | zero =>
      intro i h' F fu h1 h2 e1 e2 kk
      refine r232_52 (F.C C) ?_
      rw [fu]
      refine ⟨by omega, fun _ => kk _ (F.wF (Or.inr ⟨rfl, rfl⟩)) (fI_wF_eq (by omega)) (fun j j0 j1 => ?_) (fun j j0 j1 => ?_), fun c => absurd (by omega) c⟩
      · rw [aI_wF_ne (by decide)]; exact e1 j j0 (by omega)
      · rw [aI_wF_ne (by decide)]; exact e2 j j0 (by omega) (Or.inl j1)
    | succ n ih =>
      intro i h' F fu h1 h2 e1 e2 kk
      refine r232_52 (F.C C) ?_
      rw [fu]
      refine ⟨by omega, fun c => absurd c (by omega), fun _ => ⟨by omega, by omega, ?_⟩⟩
      refine ih (i + 1) _ (F.wA (Or.inl rfl)) (by rw [fI_wA_ne (by decide)]; exact fu) (by omega) (by omega) (fun j j0 j1 => ?_) (fun j j0 j1 j2 => ?_) kk
      · rw [aI_wA (aI_rg _ _ _)]
        by_cases q : j = i
        · rw [q, uu_eq, F.a 266 (fun _ z => by omega)]
        · rw [uu_ne (by omega) (by omega) (by omega)]; exact e1 j j0 (by omega)
      · rw [aI_wA (aI_rg _ _ _), uu_ne (by omega) (by omega) (by omega)]; exact e2 j j0 j1 (by omega)
  have l1 : ∀ (n : Nat) (i : Int) (h' : AH), Fr (fun c j => c = 270 ∨ (c = 256 ∧ j = 27)) h h' → fI h' 256 27 = 20 → fI h 256 27 = 20 → 680 - i = n → 34 ≤ i → (∀ k, 0 ≤ k → k < i - 34 → aI h' 270 k = aI h 270 (k + 34)) → (∀ k, i - 34 ≤ k → k < 680 → aI h' 270 k = aI h 270 k) → Ex X PG (d + 1) 232 12 [some (.ref 256), some (.int (J i))] [] h' Q := by
    intro n
    induction n with
    | zero =>
      intro i h' F fu fu0 h1 h2 e1 e2
      refine r232_12 (F.C C) ?_
      rw [fu]
      refine ⟨by omega, fun _ => ?_, fun c => absurd (by omega) c⟩
      refine l2 19 (by decide) (by decide) (aI (wF h' 256 27 (20 - 1)) 270) 34 0 _ (F.wF (Or.inr ⟨rfl, rfl⟩)) (fI_wF_eq (by decide)) (by omega) (by omega) (fun j j0 j1 => by omega) (fun j j0 j1 _ => rfl) (fun h'' F'' f'' a1 a2 => ?_)
      refine k h'' F''.1 ⟨F'', ?_, ?_, ?_⟩
      · rw [fu0, if_pos rfl]; omega
      · intro j m j0 j1 m0 m1
        rw [f''] at j1
        rw [a2 _ (by omega) (by omega), aI_wF_ne (by decide), e1 _ (by omega) (by omega), fu0, if_pos rfl]
        congr 1; omega
      · intro m m0 m1
        rw [f'']; exact a1 m m0 m1
    | succ n ih =>
      intro i h' F fu fu0 h1 h2 e1 e2
      refine r232_12 (F.C C) ⟨by omega, fun c => absurd c (by omega), fun _ => ⟨by omega, by omega, ?_⟩⟩
      refine ih (i + 1) _ (F.wA (Or.inl rfl)) (by rw [fI_wA_ne (by decide)]; exact fu) fu0 (by omega) (by omega) (fun j j0 j1 => ?_) (fun j j0 j1 => ?_)
      · rw [aI_wA (aI_rg _ _ _)]
        by_cases q : j = i - 34
        · rw [q, uu_eq, e2 i (by omega) (by omega), show i - 34 + 34 = i by omega]
        · rw [uu_ne (by omega) (by omega) q]; exact e1 j j0 (by omega)
      · rw [aI_wA (aI_rg _ _ _), uu_ne (by omega) (by omega) (by omega)]; exact e2 j (by omega) j1
  refine r232_0 C ⟨fun c => ?_, fun c => ?_⟩
  · refine l2 (fI h 256 27) hu.1 (by omega) (aI h 270) 34 0 h Fr.rf rfl (by omega) (by omega) (fun j j0 j1 => by omega) (fun j j0 j1 _ => rfl) (fun h'' F'' f'' a1 a2 => ?_)
    refine k h'' F''.1 ⟨F'', ?_, ?_, ?_⟩
    · rw [if_neg c]; exact f''
    · intro j m j0 j1 m0 m1
      rw [f''] at j1
      rw [a2 _ (by omega) (by omega), if_neg c, Int.add_zero]
    · intro m m0 m1
      rw [f'', show fI h 256 27 + 1 - 1 = fI h 256 27 by omega]; exact a1 m m0 m1
  · exact l1 646 34 h Fr.rf c c (by omega) (by omega) (fun j j0 j1 => by omega) (fun j j0 j1 => rfl)
-- OutwardDoorsModel.undo()I at 0
set_option maxRecDepth 20000 in
set_option maxHeartbeats 4000000 in
theorem r229_0 {X : Cst} {d : Nat}  {h : AH} {Q : Post} (C_h : Lay h)
  (w : ((¬ fI h 256 27 = 0 → Ex X PG (d + 1) 229 21 [some (.ref 256), some (.int (J 0))] [] (wF h 256 27 ((fI h 256 27) - 1)) Q) ∧ (fI h 256 27 = 0 → Q (some (.int (J (-1)))) h))) :
    Ex X PG (d + 1) 229 0 [some (.ref 256), none] [] h Q := by
  refine wpx_ok (cut := [21]) 11 d 229 0 _ _ _ _ ?_
  show hs h 256 = (0, 11) ∧ ((¬ (hF h 256 27) = (J 0) → hs h 256 = (0, 11) ∧ hs h 256 = (0, 11) ∧ Ex X PG (d + 1) 229 21 [some (.ref 256), some (.int (J 0))] [] (wG h 256 27 ((hF h 256 27) - (J 1))) Q) ∧ (¬ (¬ (hF h 256 27) = (J 0)) → Q (some (.int (J (-1)))) h))
  try simp only [aI_wAL, fI_wAL, aL_wA, aL_wF, aI_wA_ne, aI_wF_ne, fI_wA_ne, fI_wF_ne, fI_wF_nk, aL_wAL_ne, J_sameA, J_sameF, aL_same, Nat.add_left_cancel_iff, Nat.add_eq_left, Nat.left_eq_add, not_false_eq_true, Nat.reduceEqDiff, Nat.reduceAdd, J_add, J_sub, J_mul, J_neg, J_and, J_or, J_xor, J_shl, J_shr, J_div, J_i2b, J_i2l, J_l2i, J_lcm, J_max, J_min, J_nab, J_nao, rdA, rdF, rdL, wA_fold, wF_fold, wL_fold, wC_fold]
  refine ⟨(ls256 C_h), ?_⟩
  refine ⟨fun c1 => ?_, fun c1 => ?_⟩
  · have t2 : ¬ fI h 256 27 = 0 := (fun e => c1 ((Jeq (rg_toInt _) (by decide)).mpr e))
    replace w := w.1 t2
    refine ⟨(ls256 C_h), ?_⟩
    refine ⟨(ls256 C_h), ?_⟩
    exact w
  · have t2 : fI h 256 27 = 0 := ((Jeq (rg_toInt _) (by decide)).mp (Classical.byContradiction c1))
    replace w := w.2 t2
    exact w
-- OutwardDoorsModel.undo()I at 21
set_option maxRecDepth 20000 in
set_option maxHeartbeats 4000000 in
theorem r229_21 {X : Cst} {d : Nat} {x1 : Int} {h : AH} {Q : Post} (C_h : Lay h)
  (w : (-2147483648 ≤ x1 ∧ x1 < 2147483648) ∧ ((34 ≤ x1 → Q (some (.int (J (fI h 256 27)))) h) ∧ (¬ 34 ≤ x1 → (0 ≤ (34 * (fI h 256 27)) + x1 ∧ (34 * (fI h 256 27)) + x1 < 680) ∧ (0 ≤ x1 ∧ x1 < 123) ∧ Ex X PG (d + 1) 229 21 [some (.ref 256), some (.int (J (x1 + 1)))] [] (wA h 266 x1 (aI h 270 ((34 * (fI h 256 27)) + x1))) Q))) :
    Ex X PG (d + 1) 229 21 [some (.ref 256), some (.int (J x1))] [] h Q := by
  refine wpx_ok (cut := [21]) 18 d 229 21 _ _ _ _ ?_
  show (((J 34) ≤ (J x1) → hs h 256 = (0, 11) ∧ Q (some (.int (hF h 256 27))) h) ∧ (¬ ((J 34) ≤ (J x1)) → hs h 256 = (0, 11) ∧ ∃ q4, hR h 256 20 = some q4 ∧ hs h 256 = (0, 11) ∧ ∃ q5, hR h 256 26 = some q5 ∧ hs h 256 = (0, 11) ∧ (hs h q5).1 = 1 ∧ ix (((J 34) * (hF h 256 27)) + (J x1)) (hs h q5).2 ∧ (hs h q4).1 = 1 ∧ ix (J x1) (hs h q4).2 ∧ Ex X PG (d + 1) 229 21 [some (.ref 256), some (.int ((J x1) + (J 1)))] [] (wI h q4 (Int32.toNatClampNeg (J x1)) (hI h q5 (Int32.toNatClampNeg (((J 34) * (hF h 256 27)) + (J x1))))) Q))
  try simp only [aI_wAL, fI_wAL, aL_wA, aL_wF, aI_wA_ne, aI_wF_ne, fI_wA_ne, fI_wF_ne, fI_wF_nk, aL_wAL_ne, J_sameA, J_sameF, aL_same, Nat.add_left_cancel_iff, Nat.add_eq_left, Nat.left_eq_add, not_false_eq_true, Nat.reduceEqDiff, Nat.reduceAdd, J_add, J_sub, J_mul, J_neg, J_and, J_or, J_xor, J_shl, J_shr, J_div, J_i2b, J_i2l, J_l2i, J_lcm, J_max, J_min, J_nab, J_nao, rdA, rdF, rdL, wA_fold, wF_fold, wL_fold, wC_fold]
  obtain ⟨k3, w⟩ := w
  refine ⟨fun c1 => ?_, fun c1 => ?_⟩
  · have t2 : 34 ≤ x1 := ((Jle (by decide) k3).mp c1)
    replace w := w.1 t2
    refine ⟨(ls256 C_h), ?_⟩
    exact w
  · have t2 : ¬ 34 ≤ x1 := (fun e => c1 ((Jle (by decide) k3).mpr e))
    replace w := w.2 t2
    refine ⟨(ls256 C_h), _, (lr256_20 C_h), ?_⟩
    refine ⟨(ls256 C_h), _, (lr256_26 C_h), ?_⟩
    refine ⟨(ls256 C_h), ?_⟩
    obtain ⟨k6, w⟩ := w
    refine ⟨congrArg Prod.fst (ls270 C_h), ixs (ls270 C_h) k6 (by decide), ?_⟩
    obtain ⟨k7, w⟩ := w
    refine ⟨congrArg Prod.fst (ls266 C_h), ixs (ls266 C_h) k7 (by decide), ?_⟩
    exact w
theorem m229 {X : Cst} {d : Nat} {h : AH} {Q : Post} (C : Lay h) (hd : 1 ≤ d) (hu : 0 ≤ fI h 256 27 ∧ fI h 256 27 ≤ 20)
    (k0 : fI h 256 27 = 0 → Q (some (.int (J (-1)))) h)
    (k : ¬ fI h 256 27 = 0 → ∀ h', (Fr (fun c j => (c = 266 ∧ j < 34) ∨ (c = 256 ∧ j = 27)) h h' ∧ fI h' 256 27 = fI h 256 27 - 1 ∧ aI h' 266 = mix 34 (shf (aI h 270) (34 * (fI h 256 27 - 1))) (aI h 266)) → Q (some (.int (J (fI h 256 27 - 1)))) h') : Ex X PG d 229 0 [some (.ref 256), none] [] h Q := by
  obtain ⟨d, rfl⟩ : ∃ e, d = e + 1 := ⟨d - 1, by omega⟩
  refine r229_0 C ⟨fun c => ?_, fun c => k0 c⟩
  have lp : ∀ (n : Nat) (i : Int) (h' : AH), Fr (fun c j => (c = 266 ∧ j < 34) ∨ (c = 256 ∧ j = 27)) h h' → fI h' 256 27 = fI h 256 27 - 1 → 34 - i = n → 0 ≤ i → aI h' 266 = mix i.toNat (shf (aI h 270) (34 * (fI h 256 27 - 1))) (aI h 266) → Ex X PG (d + 1) 229 21 [some (.ref 256), some (.int (J i))] [] h' Q := by
    intro n
    induction n with
    | zero =>
      intro i h' F fu h1 h2 e
      refine r229_21 (F.C C) ⟨by omega, fun _ => ?_, fun c => absurd (by omega) c⟩
      rw [fu]
      exact k c h' ⟨F, fu, by rw [e, show i.toNat = 34 by omega]⟩
    | succ n ih =>
      intro i h' F fu h1 h2 e
      have t : tn i = i.toNat := tn_eq (by omega)
      refine r229_21 (F.C C) ?_
      rw [fu]
      refine ⟨by omega, fun c => absurd c (by omega), fun _ => ⟨by omega, by omega, ?_⟩⟩
      refine ih (i + 1) _ (F.wA (Or.inl ⟨rfl, by omega⟩)) (by rw [fI_wA_ne (by decide)]; exact fu) (by omega) (by omega) ?_
      rw [aI_wA (aI_rg _ _ _), e, F.a 270 (fun _ z => by omega), ← shf_k (W := aI h 270) (by omega), mix_s (Tn_shf _ _) (by omega), show (i + 1).toNat = i.toNat + 1 by omega]
  exact lp 34 0 _ (Fr.rf.wF (Or.inr ⟨rfl, rfl⟩)) (fI_wF_eq (by omega)) (by omega) (by omega) (by rw [aI_wF_ne (by decide)]; exact (mix_0 _ _).symm)
