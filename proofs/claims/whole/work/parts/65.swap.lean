/-! SWAP, of both. -/
/-- p is nearer to their goal at room r -/
def nearP (S : Int → Int) (p r : Int) : Prop := lft S (nightP S) r (pS S p 1) < lft S (nightP S) (pS S p 0) (pS S p 1)
def swp (S : Int → Int) (p q : Int) : Prop := nearP S p (pS S q 0) ∧ nearP S q (pS S p 0)
noncomputable def pI {α : Type} (P : Prop) (a b : α) : α := @ite α P (Classical.propDecidable P) a b
theorem pI_pos {α : Type} {P : Prop} {a b : α} (h : P) : pI P a b = a := by unfold pI; exact if_pos h
theorem pI_neg {α : Type} {P : Prop} {a b : α} (h : ¬ P) : pI P a b = b := by unfold pI; exact if_neg h
/-- the twos (p, q) with q among the last k people, before r -/
noncomputable def swJ (S : Int → Int) (p : Int) : Nat → Int × Int × Int → Int × Int × Int
  | 0, r => r
  | k + 1, r => pI (swp S p (S 2 - 1 - k)) ((swJ S p k r).1 + 1, p, S 2 - 1 - (k : Int)) (swJ S p k r)
/-- the twos whose first is among the last k people -/
noncomputable def swO (S : Int → Int) : Nat → Int × Int × Int
  | 0 => (0, -2, -2)
  | k + 1 => swJ S (S 2 - 1 - k) k (swO S k)
noncomputable def anSwap (S : Int → Int) (w : Int) : Int := if 0 < S 0 ∧ (0 ≤ w ∧ w ≤ 2) then (if w = 0 then (swO S (S 2).toNat).1 else if w = 1 then (swO S (S 2).toNat).2.1 else (swO S (S 2).toNat).2.2) else -1
theorem swJ_b (S : Int → Int) (p : Int) : ∀ (k : Nat) (r : Int × Int × Int), r.1 ≤ (swJ S p k r).1 ∧ (swJ S p k r).1 ≤ r.1 + k := by
  intro k
  induction k with
  | zero => intro r; exact ⟨Int.le_refl _, by show r.1 ≤ r.1 + 0; omega⟩
  | succ k ih =>
    intro r
    have := ih r
    show r.1 ≤ (pI (swp S p (S 2 - 1 - k)) ((swJ S p k r).1 + 1, p, S 2 - 1 - (k : Int)) (swJ S p k r)).1 ∧ (pI (swp S p (S 2 - 1 - k)) ((swJ S p k r).1 + 1, p, S 2 - 1 - (k : Int)) (swJ S p k r)).1 ≤ r.1 + ((k + 1 : Nat) : Int)
    by_cases c : swp S p (S 2 - 1 - k)
    · rw [pI_pos c]; show r.1 ≤ (swJ S p k r).1 + 1 ∧ (swJ S p k r).1 + 1 ≤ _; omega
    · rw [pI_neg c]; omega
theorem swO_b (S : Int → Int) : ∀ (k : Nat), k ≤ 4 → 0 ≤ (swO S k).1 ∧ (swO S k).1 ≤ 4 * k := by
  intro k
  induction k with
  | zero => intro _; exact ⟨Int.le_refl 0, Int.le_refl 0⟩
  | succ k ih =>
    intro hk
    have a := ih (by omega)
    have b := swJ_b S (S 2 - 1 - k) k (swO S k)
    show 0 ≤ (swJ S (S 2 - 1 - k) k (swO S k)).1 ∧ (swJ S (S 2 - 1 - k) k (swO S k)).1 ≤ _
    omega
-- OutwardDoorsModel.isNearerAt(II)Z at 0
set_option maxRecDepth 20000 in
set_option maxHeartbeats 4000000 in
theorem r274_0 {X : Cst} {d : Nat} {x1 : Int} {x2 : Int} {h : AH} {Q : Post} (C_h : Lay h) (hd : 5 ≤ d)
  (w : (0 ≤ 10 + 6 * x1 + 1 ∧ 10 + 6 * x1 + 1 < 123) ∧ (WF 999 (aI h 266)) ∧ (0 ≤ x2 ∧ x2 < aI h 266 0) ∧ (0 ≤ (pS (aI h 266) x1 1) ∧ (pS (aI h 266) x1 1) < aI h 266 0) ∧ (∀ h6, SH h h6 → (Fr (fun c _ => c = 267) h h6 ∧ ∀ r, 0 ≤ r → r < aI h 266 0 → aI h6 267 r = lft (aI h 266) (nightP (aI h 266)) r (pS (aI h 266) x1 1)) → (WF 999 (aI h6 266)) ∧ (0 ≤ x1 ∧ x1 < aI h6 266 2) ∧ (∀ h12, SH h6 h12 → (Fr (fun c _ => c = 267) h6 h12 ∧ ∀ r, 0 ≤ r → r < aI h6 266 0 → aI h12 267 r = lft (aI h6 266) (nightP (aI h6 266)) r (pS (aI h6 266) x1 1)) → ((lft (aI h6 266) (nightP (aI h6 266)) (pS (aI h6 266) x1 0) (pS (aI h6 266) x1 1) ≤ lft (aI h 266) (nightP (aI h 266)) x2 (pS (aI h 266) x1 1) → Q (some (.int (J 0))) h12) ∧ (¬ lft (aI h6 266) (nightP (aI h6 266)) (pS (aI h6 266) x1 0) (pS (aI h6 266) x1 1) ≤ lft (aI h 266) (nightP (aI h 266)) x2 (pS (aI h 266) x1 1) → Q (some (.int (J 1))) h12))))) :
    Ex X PG (d + 1) 274 0 [some (.ref 256), some (.int (J x1)), some (.int (J x2))] [] h Q := by
  refine wpx_ok (cut := []) 14 d 274 0 _ _ _ _ ?_
  show hs h 256 = (0, 11) ∧ Ex X PG d 209 0 [some (.ref 256), some (.int (J x1)), some (.int (J 1))] [] h (fun v1 h2 => ∃ r3, v1 = some (.int r3) ∧ hs h2 256 = (0, 11) ∧ Ex X PG d 215 0 [some (.ref 256), some (.int (J x2)), some (.int r3)] [] h2 (fun v5 h6 => ∃ r7, v5 = some (.int r7) ∧ hs h6 256 = (0, 11) ∧ Ex X PG d 214 0 [some (.ref 256), some (.int (J x1))] [] h6 (fun v11 h12 => ∃ r13, v11 = some (.int r13) ∧ ((r13 ≤ r7 → (J 0 = J 0 ∨ J 0 = J 1) ∧ Q (some (.int (J 0))) h12) ∧ (¬ (r13 ≤ r7) → (J 1 = J 0 ∨ J 1 = J 1) ∧ Q (some (.int (J 1))) h12)))))
  try simp only [aI_wAL, fI_wAL, aL_wA, aL_wF, aI_wA_ne, aI_wF_ne, fI_wA_ne, fI_wF_ne, fI_wF_nk, aL_wAL_ne, J_sameA, J_sameF, aL_same, Nat.add_left_cancel_iff, Nat.add_eq_left, Nat.left_eq_add, not_false_eq_true, Nat.reduceEqDiff, Nat.reduceAdd, J_add, J_sub, J_mul, J_neg, J_and, J_or, J_xor, J_shl, J_shr, J_div, J_i2b, J_i2l, J_l2i, J_lcm, J_max, J_min, J_nab, J_nao, rdA, rdF, rdL, wA_fold, wF_fold, wL_fold, wC_fold]
  refine ⟨(ls256 C_h), ?_⟩
  obtain ⟨k4, w⟩ := w
  refine m209 (h := h) (p := x1) (w := 1) C_h (by omega) k4 ?_
  refine ⟨_, rfl, ?_⟩
  try simp only [aI_wAL, fI_wAL, aL_wA, aL_wF, aI_wA_ne, aI_wF_ne, fI_wA_ne, fI_wF_ne, fI_wF_nk, aL_wAL_ne, J_sameA, J_sameF, aL_same, Nat.add_left_cancel_iff, Nat.add_eq_left, Nat.left_eq_add, not_false_eq_true, Nat.reduceEqDiff, Nat.reduceAdd, J_add, J_sub, J_mul, J_neg, J_and, J_or, J_xor, J_shl, J_shr, J_div, J_i2b, J_i2l, J_l2i, J_lcm, J_max, J_min, J_nab, J_nao, rdA, rdF, rdL, wA_fold, wF_fold, wL_fold, wC_fold]
  refine ⟨(ls256 C_h), ?_⟩
  obtain ⟨k8, w⟩ := w
  obtain ⟨k9, w⟩ := w
  obtain ⟨k10, w⟩ := w
  refine m215 (h := h) (r := x2) (g := (pS (aI h 266) x1 1)) C_h (by omega) k8 k9 k10 ?_
  intro h6 s20 p21
  replace w := w h6 s20 p21
  refine ⟨_, rfl, ?_⟩
  have C_h6 := Lay_SH s20 C_h
  try simp only [aI_wAL, fI_wAL, aL_wA, aL_wF, aI_wA_ne, aI_wF_ne, fI_wA_ne, fI_wF_ne, fI_wF_nk, aL_wAL_ne, J_sameA, J_sameF, aL_same, Nat.add_left_cancel_iff, Nat.add_eq_left, Nat.left_eq_add, not_false_eq_true, Nat.reduceEqDiff, Nat.reduceAdd, J_add, J_sub, J_mul, J_neg, J_and, J_or, J_xor, J_shl, J_shr, J_div, J_i2b, J_i2l, J_l2i, J_lcm, J_max, J_min, J_nab, J_nao, rdA, rdF, rdL, wA_fold, wF_fold, wL_fold, wC_fold]
  refine ⟨(ls256 C_h6), ?_⟩
  obtain ⟨k14, w⟩ := w
  obtain ⟨k15, w⟩ := w
  refine m214 (h := h6) (p := x1) C_h6 (by omega) k14 k15 ?_
  intro h12 s18 p19
  replace w := w h12 s18 p19
  refine ⟨_, rfl, ?_⟩
  have C_h12 := Lay_SH s18 C_h6
  try simp only [aI_wAL, fI_wAL, aL_wA, aL_wF, aI_wA_ne, aI_wF_ne, fI_wA_ne, fI_wF_ne, fI_wF_nk, aL_wAL_ne, J_sameA, J_sameF, aL_same, Nat.add_left_cancel_iff, Nat.add_eq_left, Nat.left_eq_add, not_false_eq_true, Nat.reduceEqDiff, Nat.reduceAdd, J_add, J_sub, J_mul, J_neg, J_and, J_or, J_xor, J_shl, J_shr, J_div, J_i2b, J_i2l, J_l2i, J_lcm, J_max, J_min, J_nab, J_nao, rdA, rdF, rdL, wA_fold, wF_fold, wL_fold, wC_fold]
  refine ⟨fun c16 => ?_, fun c16 => ?_⟩
  · have t17 : lft (aI h6 266) (nightP (aI h6 266)) (pS (aI h6 266) x1 0) (pS (aI h6 266) x1 1) ≤ lft (aI h 266) (nightP (aI h 266)) x2 (pS (aI h 266) x1 1) := ((Jle (lft_rg _ _ _ _) (lft_rg _ _ _ _)).mp c16)
    replace w := w.1 t17
    exact ⟨(Or.inl (by trivial)), w⟩
  · have t17 : ¬ lft (aI h6 266) (nightP (aI h6 266)) (pS (aI h6 266) x1 0) (pS (aI h6 266) x1 1) ≤ lft (aI h 266) (nightP (aI h 266)) x2 (pS (aI h 266) x1 1) := (fun e => c16 ((Jle (lft_rg _ _ _ _) (lft_rg _ _ _ _)).mpr e))
    replace w := w.2 t17
    exact ⟨(Or.inr (by trivial)), w⟩
theorem m274 {X : Cst} {d : Nat} {p r : Int} {h : AH} {Q : Post} (C : Lay h) (hd : 6 ≤ d) (W : WF 999 (aI h 266)) (hp : 0 ≤ p ∧ p < aI h 266 2) (hr : 0 ≤ r ∧ r < aI h 266 0)
    (k : ∀ h', SH h h' → Fr (fun c _ => c = 267) h h' → Q (some (.int (J (bI (nearP (aI h 266) p r))))) h') : Ex X PG d 274 0 [some (.ref 256), some (.int (J p)), some (.int (J r))] [] h Q := by
  obtain ⟨d, rfl⟩ : ∃ e, d = e + 1 := ⟨d - 1, by omega⟩
  have b := W.1
  unfold WFb at b
  have pp := W.2.1 p hp.1 hp.2
  refine r274_0 C (by omega) ⟨by omega, W, hr, by omega, fun h6 s6 p6 => ?_⟩
  rw [p6.1.a 266 (fun _ => by decide)]
  refine ⟨W, hp, fun h12 s12 p12 => ?_⟩
  have q := k h12 (s6.tr s12) (p6.1.tr p12.1)
  unfold nearP at q
  refine ⟨fun c => ?_, fun c => ?_⟩
  · rw [bI_neg (by omega)] at q; exact q
  · rw [bI_pos (by omega)] at q; exact q
-- OutwardDoorsModel.swap(I)I at 0
set_option maxRecDepth 20000 in
set_option maxHeartbeats 4000000 in
theorem r273_0 {X : Cst} {d : Nat} {x1 : Int} {h : AH} {Q : Post} (C_h : Lay h) (hd : 1 ≤ d)
  (w : ((¬ (0 < aI h 266 0) → Q (some (.int (J (-1)))) h) ∧ ((0 < aI h 266 0) → (-2147483648 ≤ x1 ∧ x1 < 2147483648) ∧ (((0 ≤ x1 ∧ x1 ≤ 2) → Ex X PG (d + 1) 273 40 [some (.ref 256), some (.int (J x1)), some (.int (J 0)), some (.int (J (-2))), some (.int (J (-2))), some (.int (J ((aI h 266 2) - 1))), none] [] h Q) ∧ (¬ (0 ≤ x1 ∧ x1 ≤ 2) → Q (some (.int (J (-1)))) h))))) :
    Ex X PG (d + 1) 273 0 [some (.ref 256), some (.int (J x1)), none, none, none, none, none] [] h Q := by
  refine wpx_ok (cut := [40, 55]) 22 d 273 0 _ _ _ _ ?_
  show hs h 256 = (0, 11) ∧ Ex X PG d 231 0 [some (.ref 256)] [] h (fun v1 h2 => ∃ r3, v1 = some (.int r3) ∧ ((r3 = (J 0) → Q (some (.int (J (-1)))) h2) ∧ (¬ (r3 = (J 0)) → Ex X PG d 186 0 [some (.long (Int32.toInt64 (J x1))), none, some (.long (0 : Int64)), none, some (.long (2 : Int64)), none] [] h2 (fun v6 h7 => ∃ r8, v6 = some (.int r8) ∧ ((¬ r8 = (J 0) → hs h7 256 = (0, 11) ∧ ∃ q12, hR h7 256 20 = some q12 ∧ (hs h7 q12).1 = 1 ∧ ix (J 2) (hs h7 q12).2 ∧ Ex X PG (d + 1) 273 40 [some (.ref 256), some (.int (J x1)), some (.int (J 0)), some (.int (J (-2))), some (.int (J (-2))), some (.int ((hI h7 q12 (Int32.toNatClampNeg (J 2))) - (J 1))), none] [] h7 Q) ∧ (¬ (¬ r8 = (J 0)) → Q (some (.int (J (-1)))) h7))))))
  try simp only [aI_wAL, fI_wAL, aL_wA, aL_wF, aI_wA_ne, aI_wF_ne, fI_wA_ne, fI_wF_ne, fI_wF_nk, aL_wAL_ne, J_sameA, J_sameF, aL_same, Nat.add_left_cancel_iff, Nat.add_eq_left, Nat.left_eq_add, not_false_eq_true, Nat.reduceEqDiff, Nat.reduceAdd, J_add, J_sub, J_mul, J_neg, J_and, J_or, J_xor, J_shl, J_shr, J_div, J_i2b, J_i2l, J_l2i, J_lcm, J_max, J_min, J_nab, J_nao, rdA, rdF, rdL, wA_fold, wF_fold, wL_fold, wC_fold]
  refine ⟨(ls256 C_h), ?_⟩
  refine m231 (h := h)  C_h (by omega)  ?_
  refine ⟨_, rfl, ?_⟩
  try simp only [aI_wAL, fI_wAL, aL_wA, aL_wF, aI_wA_ne, aI_wF_ne, fI_wA_ne, fI_wF_ne, fI_wF_nk, aL_wAL_ne, J_sameA, J_sameF, aL_same, Nat.add_left_cancel_iff, Nat.add_eq_left, Nat.left_eq_add, not_false_eq_true, Nat.reduceEqDiff, Nat.reduceAdd, J_add, J_sub, J_mul, J_neg, J_and, J_or, J_xor, J_shl, J_shr, J_div, J_i2b, J_i2l, J_l2i, J_lcm, J_max, J_min, J_nab, J_nao, rdA, rdF, rdL, wA_fold, wF_fold, wL_fold, wC_fold]
  refine ⟨fun c4 => ?_, fun c4 => ?_⟩
  · have t5 : ¬ (0 < aI h 266 0) := ((bI0 _).mp c4)
    replace w := w.1 t5
    exact w
  · have t5 : (0 < aI h 266 0) := (Classical.byContradiction fun n => c4 ((bI0 _).mpr n))
    replace w := w.2 t5
    obtain ⟨k9, w⟩ := w
    refine m186 (h := h) (v := x1) (lo := 0) (hi := 2) C_h (by omega) k9 (by decide) (by decide) ?_
    refine ⟨_, rfl, ?_⟩
    try simp only [aI_wAL, fI_wAL, aL_wA, aL_wF, aI_wA_ne, aI_wF_ne, fI_wA_ne, fI_wF_ne, fI_wF_nk, aL_wAL_ne, J_sameA, J_sameF, aL_same, Nat.add_left_cancel_iff, Nat.add_eq_left, Nat.left_eq_add, not_false_eq_true, Nat.reduceEqDiff, Nat.reduceAdd, J_add, J_sub, J_mul, J_neg, J_and, J_or, J_xor, J_shl, J_shr, J_div, J_i2b, J_i2l, J_l2i, J_lcm, J_max, J_min, J_nab, J_nao, rdA, rdF, rdL, wA_fold, wF_fold, wL_fold, wC_fold]
    refine ⟨fun c10 => ?_, fun c10 => ?_⟩
    · have t11 : (0 ≤ x1 ∧ x1 ≤ 2) := (Classical.byContradiction fun n => c10 ((bI0 _).mpr n))
      replace w := w.1 t11
      refine ⟨(ls256 C_h), _, (lr256_20 C_h), ?_⟩
      refine ⟨congrArg Prod.fst (ls266 C_h), ixs (ls266 C_h) (by decide) (by decide), ?_⟩
      exact w
    · have t11 : ¬ (0 ≤ x1 ∧ x1 ≤ 2) := ((bI0 _).mp (Classical.byContradiction fun n => c10 n))
      replace w := w.2 t11
      exact w
-- OutwardDoorsModel.swap(I)I at 40
set_option maxRecDepth 20000 in
set_option maxHeartbeats 4000000 in
theorem r273_40 {X : Cst} {d : Nat} {x1 : Int} {x2 : Int} {x3 : Int} {x4 : Int} {x5 : Int} {l6 : Option Value} {h : AH} {Q : Post} (C_h : Lay h)
  (w : (-2147483648 ≤ x5 ∧ x5 < 2147483648) ∧ ((x5 < 0 → (-2147483648 ≤ x1 ∧ x1 < 2147483648) ∧ ((¬ x1 = 0 → ((¬ x1 = 1 → Q (some (.int (J x4))) h) ∧ (x1 = 1 → Q (some (.int (J x3))) h))) ∧ (x1 = 0 → Q (some (.int (J x2))) h))) ∧ (¬ x5 < 0 → Ex X PG (d + 1) 273 55 [some (.ref 256), some (.int (J x1)), some (.int (J x2)), some (.int (J x3)), some (.int (J x4)), some (.int (J x5)), some (.int (J ((aI h 266 2) - 1)))] [] h Q))) :
    Ex X PG (d + 1) 273 40 [some (.ref 256), some (.int (J x1)), some (.int (J x2)), some (.int (J x3)), some (.int (J x4)), some (.int (J x5)), l6] [] h Q := by
  refine wpx_ok (cut := [40, 55]) 10 d 273 40 _ _ _ _ ?_
  show (((J x5) < (J 0) → ((¬ (J x1) = (J 0) → ((¬ (J x1) = (J 1) → Q (some (.int (J x4))) h) ∧ (¬ (¬ (J x1) = (J 1)) → Q (some (.int (J x3))) h))) ∧ (¬ (¬ (J x1) = (J 0)) → Q (some (.int (J x2))) h))) ∧ (¬ ((J x5) < (J 0)) → hs h 256 = (0, 11) ∧ ∃ q9, hR h 256 20 = some q9 ∧ (hs h q9).1 = 1 ∧ ix (J 2) (hs h q9).2 ∧ Ex X PG (d + 1) 273 55 [some (.ref 256), some (.int (J x1)), some (.int (J x2)), some (.int (J x3)), some (.int (J x4)), some (.int (J x5)), some (.int ((hI h q9 (Int32.toNatClampNeg (J 2))) - (J 1)))] [] h Q))
  try simp only [aI_wAL, fI_wAL, aL_wA, aL_wF, aI_wA_ne, aI_wF_ne, fI_wA_ne, fI_wF_ne, fI_wF_nk, aL_wAL_ne, J_sameA, J_sameF, aL_same, Nat.add_left_cancel_iff, Nat.add_eq_left, Nat.left_eq_add, not_false_eq_true, Nat.reduceEqDiff, Nat.reduceAdd, J_add, J_sub, J_mul, J_neg, J_and, J_or, J_xor, J_shl, J_shr, J_div, J_i2b, J_i2l, J_l2i, J_lcm, J_max, J_min, J_nab, J_nao, rdA, rdF, rdL, wA_fold, wF_fold, wL_fold, wC_fold]
  obtain ⟨k3, w⟩ := w
  refine ⟨fun c1 => ?_, fun c1 => ?_⟩
  · have t2 : x5 < 0 := ((Jlt k3 (by decide)).mp c1)
    replace w := w.1 t2
    obtain ⟨k6, w⟩ := w
    refine ⟨fun c4 => ?_, fun c4 => ?_⟩
    · have t5 : ¬ x1 = 0 := (fun e => c4 ((Jeq k6 (by decide)).mpr e))
      replace w := w.1 t5
      refine ⟨fun c7 => ?_, fun c7 => ?_⟩
      · have t8 : ¬ x1 = 1 := (fun e => c7 ((Jeq k6 (by decide)).mpr e))
        replace w := w.1 t8
        exact w
      · have t8 : x1 = 1 := ((Jeq k6 (by decide)).mp (Classical.byContradiction c7))
        replace w := w.2 t8
        exact w
    · have t5 : x1 = 0 := ((Jeq k6 (by decide)).mp (Classical.byContradiction c4))
      replace w := w.2 t5
      exact w
  · have t2 : ¬ x5 < 0 := (fun e => c1 ((Jlt k3 (by decide)).mpr e))
    replace w := w.2 t2
    refine ⟨(ls256 C_h), _, (lr256_20 C_h), ?_⟩
    refine ⟨congrArg Prod.fst (ls266 C_h), ixs (ls266 C_h) (by decide) (by decide), ?_⟩
    exact w
-- OutwardDoorsModel.swap(I)I at 55
set_option maxRecDepth 20000 in
set_option maxHeartbeats 4000000 in
theorem r273_55 {X : Cst} {d : Nat} {x1 : Int} {x2 : Int} {x3 : Int} {x4 : Int} {x5 : Int} {x6 : Int} {h : AH} {Q : Post} (C_h : Lay h) (hd : 6 ≤ d)
  (w : (-2147483648 ≤ x6 ∧ x6 < 2147483648) ∧ (-2147483648 ≤ x5 ∧ x5 < 2147483648) ∧ ((x6 ≤ x5 → Ex X PG (d + 1) 273 40 [some (.ref 256), some (.int (J x1)), some (.int (J x2)), some (.int (J x3)), some (.int (J x4)), some (.int (J (x5 + (-1)))), some (.int (J x6))] [] h Q) ∧ (¬ x6 ≤ x5 → (0 ≤ 10 + 6 * x6 + 0 ∧ 10 + 6 * x6 + 0 < 123) ∧ (WF 999 (aI h 266)) ∧ (0 ≤ x5 ∧ x5 < aI h 266 2) ∧ (0 ≤ (pS (aI h 266) x6 0) ∧ (pS (aI h 266) x6 0) < aI h 266 0) ∧ (∀ h10, SH h h10 → (Fr (fun c _ => c = 267) h h10) → ((¬ (nearP (aI h 266) x5 (pS (aI h 266) x6 0)) → Ex X PG (d + 1) 273 55 [some (.ref 256), some (.int (J x1)), some (.int (J x2)), some (.int (J x3)), some (.int (J x4)), some (.int (J x5)), some (.int (J (x6 + (-1))))] [] h10 Q) ∧ ((nearP (aI h 266) x5 (pS (aI h 266) x6 0)) → (0 ≤ 10 + 6 * x5 + 0 ∧ 10 + 6 * x5 + 0 < 123) ∧ (WF 999 (aI h10 266)) ∧ (0 ≤ x6 ∧ x6 < aI h10 266 2) ∧ (0 ≤ (pS (aI h10 266) x5 0) ∧ (pS (aI h10 266) x5 0) < aI h10 266 0) ∧ (∀ h22, SH h10 h22 → (Fr (fun c _ => c = 267) h10 h22) → (((nearP (aI h10 266) x6 (pS (aI h10 266) x5 0)) → Ex X PG (d + 1) 273 55 [some (.ref 256), some (.int (J x1)), some (.int (J (x2 + 1))), some (.int (J x5)), some (.int (J x6)), some (.int (J x5)), some (.int (J (x6 + (-1))))] [] h22 Q) ∧ (¬ (nearP (aI h10 266) x6 (pS (aI h10 266) x5 0)) → Ex X PG (d + 1) 273 55 [some (.ref 256), some (.int (J x1)), some (.int (J x2)), some (.int (J x3)), some (.int (J x4)), some (.int (J x5)), some (.int (J (x6 + (-1))))] [] h22 Q))))))))) :
    Ex X PG (d + 1) 273 55 [some (.ref 256), some (.int (J x1)), some (.int (J x2)), some (.int (J x3)), some (.int (J x4)), some (.int (J x5)), some (.int (J x6))] [] h Q := by
  refine wpx_ok (cut := [40, 55]) 26 d 273 55 _ _ _ _ ?_
  show (((J x6) ≤ (J x5) → Ex X PG (d + 1) 273 40 [some (.ref 256), some (.int (J x1)), some (.int (J x2)), some (.int (J x3)), some (.int (J x4)), some (.int ((J x5) + (J (-1)))), some (.int (J x6))] [] h Q) ∧ (¬ ((J x6) ≤ (J x5)) → hs h 256 = (0, 11) ∧ Ex X PG d 209 0 [some (.ref 256), some (.int (J x6)), some (.int (J 0))] [] h (fun v5 h6 => ∃ r7, v5 = some (.int r7) ∧ hs h6 256 = (0, 11) ∧ Ex X PG d 274 0 [some (.ref 256), some (.int (J x5)), some (.int r7)] [] h6 (fun v9 h10 => ∃ r11, v9 = some (.int r11) ∧ ((r11 = (J 0) → Ex X PG (d + 1) 273 55 [some (.ref 256), some (.int (J x1)), some (.int (J x2)), some (.int (J x3)), some (.int (J x4)), some (.int (J x5)), some (.int ((J x6) + (J (-1))))] [] h10 Q) ∧ (¬ (r11 = (J 0)) → hs h10 256 = (0, 11) ∧ Ex X PG d 209 0 [some (.ref 256), some (.int (J x5)), some (.int (J 0))] [] h10 (fun v17 h18 => ∃ r19, v17 = some (.int r19) ∧ hs h18 256 = (0, 11) ∧ Ex X PG d 274 0 [some (.ref 256), some (.int (J x6)), some (.int r19)] [] h18 (fun v21 h22 => ∃ r23, v21 = some (.int r23) ∧ ((¬ r23 = (J 0) → Ex X PG (d + 1) 273 55 [some (.ref 256), some (.int (J x1)), some (.int ((J x2) + (J 1))), some (.int (J x5)), some (.int (J x6)), some (.int (J x5)), some (.int ((J x6) + (J (-1))))] [] h22 Q) ∧ (¬ (¬ r23 = (J 0)) → Ex X PG (d + 1) 273 55 [some (.ref 256), some (.int (J x1)), some (.int (J x2)), some (.int (J x3)), some (.int (J x4)), some (.int (J x5)), some (.int ((J x6) + (J (-1))))] [] h22 Q))))))))))
  try simp only [aI_wAL, fI_wAL, aL_wA, aL_wF, aI_wA_ne, aI_wF_ne, fI_wA_ne, fI_wF_ne, fI_wF_nk, aL_wAL_ne, J_sameA, J_sameF, aL_same, Nat.add_left_cancel_iff, Nat.add_eq_left, Nat.left_eq_add, not_false_eq_true, Nat.reduceEqDiff, Nat.reduceAdd, J_add, J_sub, J_mul, J_neg, J_and, J_or, J_xor, J_shl, J_shr, J_div, J_i2b, J_i2l, J_l2i, J_lcm, J_max, J_min, J_nab, J_nao, rdA, rdF, rdL, wA_fold, wF_fold, wL_fold, wC_fold]
  obtain ⟨k3, w⟩ := w
  obtain ⟨k4, w⟩ := w
  refine ⟨fun c1 => ?_, fun c1 => ?_⟩
  · have t2 : x6 ≤ x5 := ((Jle k3 k4).mp c1)
    replace w := w.1 t2
    exact w
  · have t2 : ¬ x6 ≤ x5 := (fun e => c1 ((Jle k3 k4).mpr e))
    replace w := w.2 t2
    refine ⟨(ls256 C_h), ?_⟩
    obtain ⟨k8, w⟩ := w
    refine m209 (h := h) (p := x6) (w := 0) C_h (by omega) k8 ?_
    refine ⟨_, rfl, ?_⟩
    try simp only [aI_wAL, fI_wAL, aL_wA, aL_wF, aI_wA_ne, aI_wF_ne, fI_wA_ne, fI_wF_ne, fI_wF_nk, aL_wAL_ne, J_sameA, J_sameF, aL_same, Nat.add_left_cancel_iff, Nat.add_eq_left, Nat.left_eq_add, not_false_eq_true, Nat.reduceEqDiff, Nat.reduceAdd, J_add, J_sub, J_mul, J_neg, J_and, J_or, J_xor, J_shl, J_shr, J_div, J_i2b, J_i2l, J_l2i, J_lcm, J_max, J_min, J_nab, J_nao, rdA, rdF, rdL, wA_fold, wF_fold, wL_fold, wC_fold]
    refine ⟨(ls256 C_h), ?_⟩
    obtain ⟨k12, w⟩ := w
    obtain ⟨k13, w⟩ := w
    obtain ⟨k14, w⟩ := w
    refine m274 (h := h) (p := x5) (r := (pS (aI h 266) x6 0)) C_h (by omega) k12 k13 k14 ?_
    intro h10 s31 p32
    replace w := w h10 s31 p32
    refine ⟨_, rfl, ?_⟩
    have C_h10 := Lay_SH s31 C_h
    try simp only [aI_wAL, fI_wAL, aL_wA, aL_wF, aI_wA_ne, aI_wF_ne, fI_wA_ne, fI_wF_ne, fI_wF_nk, aL_wAL_ne, J_sameA, J_sameF, aL_same, Nat.add_left_cancel_iff, Nat.add_eq_left, Nat.left_eq_add, not_false_eq_true, Nat.reduceEqDiff, Nat.reduceAdd, J_add, J_sub, J_mul, J_neg, J_and, J_or, J_xor, J_shl, J_shr, J_div, J_i2b, J_i2l, J_l2i, J_lcm, J_max, J_min, J_nab, J_nao, rdA, rdF, rdL, wA_fold, wF_fold, wL_fold, wC_fold]
    refine ⟨fun c15 => ?_, fun c15 => ?_⟩
    · have t16 : ¬ (nearP (aI h 266) x5 (pS (aI h 266) x6 0)) := ((bI0 _).mp c15)
      replace w := w.1 t16
      exact w
    · have t16 : (nearP (aI h 266) x5 (pS (aI h 266) x6 0)) := (Classical.byContradiction fun n => c15 ((bI0 _).mpr n))
      replace w := w.2 t16
      refine ⟨(ls256 C_h10), ?_⟩
      obtain ⟨k20, w⟩ := w
      refine m209 (h := h10) (p := x5) (w := 0) C_h10 (by omega) k20 ?_
      refine ⟨_, rfl, ?_⟩
      try simp only [aI_wAL, fI_wAL, aL_wA, aL_wF, aI_wA_ne, aI_wF_ne, fI_wA_ne, fI_wF_ne, fI_wF_nk, aL_wAL_ne, J_sameA, J_sameF, aL_same, Nat.add_left_cancel_iff, Nat.add_eq_left, Nat.left_eq_add, not_false_eq_true, Nat.reduceEqDiff, Nat.reduceAdd, J_add, J_sub, J_mul, J_neg, J_and, J_or, J_xor, J_shl, J_shr, J_div, J_i2b, J_i2l, J_l2i, J_lcm, J_max, J_min, J_nab, J_nao, rdA, rdF, rdL, wA_fold, wF_fold, wL_fold, wC_fold]
      refine ⟨(ls256 C_h10), ?_⟩
      obtain ⟨k24, w⟩ := w
      obtain ⟨k25, w⟩ := w
      obtain ⟨k26, w⟩ := w
      refine m274 (h := h10) (p := x6) (r := (pS (aI h10 266) x5 0)) C_h10 (by omega) k24 k25 k26 ?_
      intro h22 s29 p30
      replace w := w h22 s29 p30
      refine ⟨_, rfl, ?_⟩
      have C_h22 := Lay_SH s29 C_h10
      try simp only [aI_wAL, fI_wAL, aL_wA, aL_wF, aI_wA_ne, aI_wF_ne, fI_wA_ne, fI_wF_ne, fI_wF_nk, aL_wAL_ne, J_sameA, J_sameF, aL_same, Nat.add_left_cancel_iff, Nat.add_eq_left, Nat.left_eq_add, not_false_eq_true, Nat.reduceEqDiff, Nat.reduceAdd, J_add, J_sub, J_mul, J_neg, J_and, J_or, J_xor, J_shl, J_shr, J_div, J_i2b, J_i2l, J_l2i, J_lcm, J_max, J_min, J_nab, J_nao, rdA, rdF, rdL, wA_fold, wF_fold, wL_fold, wC_fold]
      refine ⟨fun c27 => ?_, fun c27 => ?_⟩
      · have t28 : (nearP (aI h10 266) x6 (pS (aI h10 266) x5 0)) := (Classical.byContradiction fun n => c27 ((bI0 _).mpr n))
        replace w := w.1 t28
        exact w
      · have t28 : ¬ (nearP (aI h10 266) x6 (pS (aI h10 266) x5 0)) := ((bI0 _).mp (Classical.byContradiction fun n => c27 n))
        replace w := w.2 t28
        exact w
theorem m273 {X : Cst} {d : Nat} {w : Int} {h : AH} {Q : Post} (C : Lay h) (hd : 7 ≤ d) (W : WF 999 (aI h 266)) (g1 : -2147483648 ≤ w ∧ w < 2147483648)
    (k : ∀ h', Fr (fun c _ => c = 267) h h' → Q (some (.int (J (anSwap (aI h 266) w)))) h') : Ex X PG d 273 0 [some (.ref 256), some (.int (J w)), none, none, none, none, none] [] h Q := by
  obtain ⟨d, rfl⟩ : ∃ e, d = e + 1 := ⟨d - 1, by omega⟩
  have b := W.1
  unfold WFb at b
  unfold anSwap at k
  refine r273_0 C (by omega) ⟨fun c => ?_, fun c => ⟨g1, fun c2 => ?_, fun c2 => ?_⟩⟩
  · rw [if_neg (fun z => c z.1)] at k; exact k h Fr.rf
  · rw [if_pos ⟨c, c2⟩] at k
    generalize hS : aI h 266 = S at *
    have lo : ∀ (m kk : Nat) (t : Int × Int × Int) (h' : AH) (l6 : Option Value), S 2 = m + kk → t = swO S kk → Fr (fun c _ => c = 267) h h' → Ex X PG (d + 1) 273 40 [some (.ref 256), some (.int (J w)), some (.int (J t.1)), some (.int (J t.2.1)), some (.int (J t.2.2)), some (.int (J ((m : Int) - 1))), l6] [] h' Q := by
      intro m
      induction m with
      | zero =>
        intro kk t h' l6 e1 e2 F
        refine r273_40 (F.C C) ⟨by omega, fun _ => ⟨g1, fun c3 => ⟨fun c4 => ?_, fun c4 => ?_⟩, fun c3 => ?_⟩, fun z => absurd (by omega) z⟩
        all_goals
          have q := k h' F
          rw [show (S 2).toNat = kk by omega, ← e2] at q
        · rw [if_neg c3, if_neg c4] at q; exact q
        · rw [if_neg c3, if_pos c4] at q; exact q
        · rw [if_pos c3] at q; exact q
      | succ m ih =>
        intro kk t h' l6 e1 e2 F
        have e6 : aI h' 266 = S := by rw [F.a 266 (fun _ => by decide)]; exact hS
        refine r273_40 (F.C C) ⟨by omega, fun z => absurd z (by omega), fun _ => ?_⟩
        rw [e6, show ((m + 1 : Nat) : Int) - 1 = m by omega]
        have li : ∀ (j bb : Nat) (t : Int × Int × Int) (h' : AH), kk = bb + j → t = swJ S m bb (swO S kk) → Fr (fun c _ => c = 267) h h' → Ex X PG (d + 1) 273 55 [some (.ref 256), some (.int (J w)), some (.int (J t.1)), some (.int (J t.2.1)), some (.int (J t.2.2)), some (.int (J (m : Int))), some (.int (J (S 2 - 1 - bb)))] [] h' Q := by
          intro j
          induction j with
          | zero =>
            intro bb t h' i1 i2 F
            refine r273_55 (F.C C) (by omega) ⟨by omega, by omega, fun _ => ?_, fun z => absurd (by omega) z⟩
            rw [show (m : Int) + (-1) = (m : Int) - 1 by omega]
            refine ih (kk + 1) t h' _ (by omega) ?_ F
            rw [i2]
            show _ = swJ S (S 2 - 1 - kk) kk (swO S kk)
            rw [show S 2 - 1 - (kk : Int) = m by omega, show bb = kk by omega]
          | succ j ih2 =>
            intro bb t h' i1 i2 F
            have e6 : aI h' 266 = S := by rw [F.a 266 (fun _ => by decide)]; exact hS
            have pm := W.2.1 m (by omega) (by omega)
            have pq := W.2.1 (S 2 - 1 - bb) (by omega) (by omega)
            have sb := swJ_b S m bb (swO S kk)
            have ob := swO_b S kk (by omega)
            rw [← i2] at sb
            refine r273_55 (F.C C) (by omega) ⟨by omega, by omega, fun z => absurd z (by omega), fun _ => ?_⟩
            rw [e6]
            refine ⟨by omega, W, by omega, by omega, fun h10 s10 F10 => ?_⟩
            have e10 : aI h10 266 = S := by rw [F10.a 266 (fun _ => by decide)]; exact e6
            rw [e10]
            have un : swJ S m (bb + 1) (swO S kk) = pI (swp S m (S 2 - 1 - bb)) ((swJ S m bb (swO S kk)).1 + 1, (m : Int), S 2 - 1 - (bb : Int)) (swJ S m bb (swO S kk)) := rfl
            rw [← i2] at un
            have no : ∀ h'', Fr (fun c _ => c = 267) h h'' → ¬ swp S m (S 2 - 1 - bb) → Ex X PG (d + 1) 273 55 [some (.ref 256), some (.int (J w)), some (.int (J t.1)), some (.int (J t.2.1)), some (.int (J t.2.2)), some (.int (J (m : Int))), some (.int (J (S 2 - 1 - bb + (-1))))] [] h'' Q := by
              intro h'' F'' c3
              rw [pI_neg c3] at un
              have := ih2 (bb + 1) t h'' (by omega) un.symm F''
              rw [show S 2 - 1 - ((bb + 1 : Nat) : Int) = S 2 - 1 - bb + (-1) by omega] at this
              exact this
            refine ⟨fun c3 => no h10 (F.tr F10) (fun z => c3 z.1), fun c3 => ⟨by omega, W, by omega, by omega, fun h22 s22 F22 => ⟨fun c4 => ?_, fun c4 => no h22 ((F.tr F10).tr F22) (fun z => c4 z.2)⟩⟩⟩
            rw [pI_pos ⟨c3, c4⟩] at un
            have := ih2 (bb + 1) (t.1 + 1, (m : Int), S 2 - 1 - (bb : Int)) h22 (by omega) un.symm ((F.tr F10).tr F22)
            rw [show S 2 - 1 - ((bb + 1 : Nat) : Int) = S 2 - 1 - bb + (-1) by omega] at this
            exact this
        have := li kk 0 t h' (by omega) e2 F
        rw [show S 2 - 1 - ((0 : Nat) : Int) = S 2 - 1 by omega] at this
        exact this
    have := lo (S 2).toNat 0 (0, -2, -2) h none (by omega) rfl Fr.rf
    rw [show (((S 2).toNat : Nat) : Int) - 1 = S 2 - 1 by omega] at this
    exact this
  · rw [if_neg (fun z => c2 z.2)] at k; exact k h Fr.rf
-- OutwardDoors.isNearerAt(II)Z at 0
set_option maxRecDepth 20000 in
set_option maxHeartbeats 4000000 in
theorem r149_0 {X : Cst} {d : Nat} {x1 : Int} {x2 : Int} {pl : Nat} {S : Int → Int} {h : AH} {Q : Post} (C_h : Lay h) (K_h_0 : PlanAt h pl) (P_h : hR h 52 0 = some pl) (hd : 3 ≤ d)
  (w : (0 ≤ x1 ∧ x1 < 4) ∧ (CS h pl S) ∧ (WF 999 S) ∧ (0 ≤ ((bI (nightP S)) * 8 + (aI h 65 x1)) * 8 + (aI h 66 x1) ∧ ((bI (nightP S)) * 8 + (aI h 65 x1)) * 8 + (aI h 66 x1) < 128) ∧ (0 ≤ x2 ∧ x2 < 4) ∧ (0 ≤ ((bI (nightP S)) * 8 + (aI h 65 x2)) * 8 + (aI h 66 x1) ∧ ((bI (nightP S)) * 8 + (aI h 65 x2)) * 8 + (aI h 66 x1) < 128) ∧ ((aI h (pl + 10) (((bI (nightP S)) * 8 + (aI h 65 x1)) * 8 + (aI h 66 x1)) ≤ aI h (pl + 10) (((bI (nightP S)) * 8 + (aI h 65 x2)) * 8 + (aI h 66 x1)) → Q (some (.int (J 0))) h) ∧ (¬ aI h (pl + 10) (((bI (nightP S)) * 8 + (aI h 65 x1)) * 8 + (aI h 66 x1)) ≤ aI h (pl + 10) (((bI (nightP S)) * 8 + (aI h 65 x2)) * 8 + (aI h 66 x1)) → Q (some (.int (J 1))) h))) :
    Ex X PG (d + 1) 149 0 [some (.ref 0), some (.int (J x1)), some (.int (J x2)), none, none, none] [] h Q := by
  refine wpx_ok (cut := []) 37 d 149 0 _ _ _ _ ?_
  show hs h 0 = (0, 10) ∧ ∃ q1, hR h 0 5 = some q1 ∧ hs h q1 = (0, 6) ∧ ∃ q2, hR h q1 1 = some q2 ∧ hs h q2 = (0, 9) ∧ ∃ q3, hR h q2 1 = some q3 ∧ (hs h q3).1 = 1 ∧ ix (J x1) (hs h q3).2 ∧ hs h 0 = (0, 10) ∧ ∃ q5, hR h 0 5 = some q5 ∧ hs h q5 = (0, 6) ∧ ∃ q6, hR h q5 0 = some q6 ∧ hs h 0 = (0, 10) ∧ Ex X PG d 76 0 [some (.ref 0)] [] h (fun v7 h8 => ∃ r9, v7 = some (.int r9) ∧ hs h8 q2 = (0, 9) ∧ ∃ q12, hR h8 q2 0 = some q12 ∧ (hs h8 q12).1 = 1 ∧ ix (J x1) (hs h8 q12).2 ∧ hs h8 q6 = (0, 2) ∧ Ex X PG d 54 0 [some (.ref q6), some (.int r9), some (.int (hI h8 q12 (Int32.toNatClampNeg (J x1)))), some (.int (hI h q3 (Int32.toNatClampNeg (J x1))))] [] h8 (fun v13 h14 => ∃ r15, v13 = some (.int r15) ∧ hs h14 0 = (0, 10) ∧ ∃ q17, hR h14 0 5 = some q17 ∧ hs h14 q17 = (0, 6) ∧ ∃ q18, hR h14 q17 0 = some q18 ∧ hs h14 0 = (0, 10) ∧ Ex X PG d 76 0 [some (.ref 0)] [] h14 (fun v19 h20 => ∃ r21, v19 = some (.int r21) ∧ hs h20 q2 = (0, 9) ∧ ∃ q22, hR h20 q2 0 = some q22 ∧ (hs h20 q22).1 = 1 ∧ ix (J x2) (hs h20 q22).2 ∧ hs h20 q18 = (0, 2) ∧ Ex X PG d 54 0 [some (.ref q18), some (.int r21), some (.int (hI h20 q22 (Int32.toNatClampNeg (J x2)))), some (.int (hI h q3 (Int32.toNatClampNeg (J x1))))] [] h20 (fun v24 h25 => ∃ r26, v24 = some (.int r26) ∧ ((r15 ≤ r26 → (J 0 = J 0 ∨ J 0 = J 1) ∧ Q (some (.int (J 0))) h25) ∧ (¬ (r15 ≤ r26) → (J 1 = J 0 ∨ J 1 = J 1) ∧ Q (some (.int (J 1))) h25))))))
  try simp only [aI_wAL, fI_wAL, aL_wA, aL_wF, aI_wA_ne, aI_wF_ne, fI_wA_ne, fI_wF_ne, fI_wF_nk, aL_wAL_ne, J_sameA, J_sameF, aL_same, Nat.add_left_cancel_iff, Nat.add_eq_left, Nat.left_eq_add, not_false_eq_true, Nat.reduceEqDiff, Nat.reduceAdd, J_add, J_sub, J_mul, J_neg, J_and, J_or, J_xor, J_shl, J_shr, J_div, J_i2b, J_i2l, J_l2i, J_lcm, J_max, J_min, J_nab, J_nao, rdA, rdF, rdL, wA_fold, wF_fold, wL_fold, wC_fold]
  refine ⟨(ls0 C_h), _, (lr0_5 C_h), ?_⟩
  refine ⟨(ls52 C_h), _, (lr52_1 C_h), ?_⟩
  refine ⟨(ls64 C_h), _, (lr64_1 C_h), ?_⟩
  obtain ⟨k4, w⟩ := w
  refine ⟨congrArg Prod.fst (ls66 C_h), ixs (ls66 C_h) k4 (by decide), ?_⟩
  refine ⟨(ls0 C_h), _, (lr0_5 C_h), ?_⟩
  refine ⟨(ls52 C_h), _, P_h, ?_⟩
  refine ⟨(ls0 C_h), ?_⟩
  obtain ⟨k10, w⟩ := w
  obtain ⟨k11, w⟩ := w
  refine m76 (h := h)  (S := S) (pl := pl) C_h P_h K_h_0 (by omega) k10 k11 ?_
  refine ⟨_, rfl, ?_⟩
  try simp only [aI_wAL, fI_wAL, aL_wA, aL_wF, aI_wA_ne, aI_wF_ne, fI_wA_ne, fI_wF_ne, fI_wF_nk, aL_wAL_ne, J_sameA, J_sameF, aL_same, Nat.add_left_cancel_iff, Nat.add_eq_left, Nat.left_eq_add, not_false_eq_true, Nat.reduceEqDiff, Nat.reduceAdd, J_add, J_sub, J_mul, J_neg, J_and, J_or, J_xor, J_shl, J_shr, J_div, J_i2b, J_i2l, J_l2i, J_lcm, J_max, J_min, J_nab, J_nao, rdA, rdF, rdL, wA_fold, wF_fold, wL_fold, wC_fold]
  refine ⟨(ls64 C_h), _, (lr64_0 C_h), ?_⟩
  refine ⟨congrArg Prod.fst (ls65 C_h), ixs (ls65 C_h) k4 (by decide), ?_⟩
  refine ⟨(plan_0 K_h_0), ?_⟩
  obtain ⟨k16, w⟩ := w
  refine m54 (h := h) (a := pl) (r := (bI (nightP S))) (x := (aI h 65 x1)) (y := (aI h 66 x1)) C_h K_h_0 (by omega) k16 ?_
  refine ⟨_, rfl, ?_⟩
  try simp only [aI_wAL, fI_wAL, aL_wA, aL_wF, aI_wA_ne, aI_wF_ne, fI_wA_ne, fI_wF_ne, fI_wF_nk, aL_wAL_ne, J_sameA, J_sameF, aL_same, Nat.add_left_cancel_iff, Nat.add_eq_left, Nat.left_eq_add, not_false_eq_true, Nat.reduceEqDiff, Nat.reduceAdd, J_add, J_sub, J_mul, J_neg, J_and, J_or, J_xor, J_shl, J_shr, J_div, J_i2b, J_i2l, J_l2i, J_lcm, J_max, J_min, J_nab, J_nao, rdA, rdF, rdL, wA_fold, wF_fold, wL_fold, wC_fold]
  refine ⟨(ls0 C_h), _, (lr0_5 C_h), ?_⟩
  refine ⟨(ls52 C_h), _, P_h, ?_⟩
  refine ⟨(ls0 C_h), ?_⟩
  refine m76 (h := h)  (S := S) (pl := pl) C_h P_h K_h_0 (by omega) k10 k11 ?_
  refine ⟨_, rfl, ?_⟩
  try simp only [aI_wAL, fI_wAL, aL_wA, aL_wF, aI_wA_ne, aI_wF_ne, fI_wA_ne, fI_wF_ne, fI_wF_nk, aL_wAL_ne, J_sameA, J_sameF, aL_same, Nat.add_left_cancel_iff, Nat.add_eq_left, Nat.left_eq_add, not_false_eq_true, Nat.reduceEqDiff, Nat.reduceAdd, J_add, J_sub, J_mul, J_neg, J_and, J_or, J_xor, J_shl, J_shr, J_div, J_i2b, J_i2l, J_l2i, J_lcm, J_max, J_min, J_nab, J_nao, rdA, rdF, rdL, wA_fold, wF_fold, wL_fold, wC_fold]
  refine ⟨(ls64 C_h), _, (lr64_0 C_h), ?_⟩
  obtain ⟨k23, w⟩ := w
  refine ⟨congrArg Prod.fst (ls65 C_h), ixs (ls65 C_h) k23 (by decide), ?_⟩
  refine ⟨(plan_0 K_h_0), ?_⟩
  obtain ⟨k27, w⟩ := w
  refine m54 (h := h) (a := pl) (r := (bI (nightP S))) (x := (aI h 65 x2)) (y := (aI h 66 x1)) C_h K_h_0 (by omega) k27 ?_
  refine ⟨_, rfl, ?_⟩
  try simp only [aI_wAL, fI_wAL, aL_wA, aL_wF, aI_wA_ne, aI_wF_ne, fI_wA_ne, fI_wF_ne, fI_wF_nk, aL_wAL_ne, J_sameA, J_sameF, aL_same, Nat.add_left_cancel_iff, Nat.add_eq_left, Nat.left_eq_add, not_false_eq_true, Nat.reduceEqDiff, Nat.reduceAdd, J_add, J_sub, J_mul, J_neg, J_and, J_or, J_xor, J_shl, J_shr, J_div, J_i2b, J_i2l, J_l2i, J_lcm, J_max, J_min, J_nab, J_nao, rdA, rdF, rdL, wA_fold, wF_fold, wL_fold, wC_fold]
  refine ⟨fun c28 => ?_, fun c28 => ?_⟩
  · have t29 : aI h (pl + 10) (((bI (nightP S)) * 8 + (aI h 65 x1)) * 8 + (aI h 66 x1)) ≤ aI h (pl + 10) (((bI (nightP S)) * 8 + (aI h 65 x2)) * 8 + (aI h 66 x1)) := ((Jle (rg_toInt _) (rg_toInt _)).mp c28)
    replace w := w.1 t29
    exact ⟨(Or.inl (by trivial)), w⟩
  · have t29 : ¬ aI h (pl + 10) (((bI (nightP S)) * 8 + (aI h 65 x1)) * 8 + (aI h 66 x1)) ≤ aI h (pl + 10) (((bI (nightP S)) * 8 + (aI h 65 x2)) * 8 + (aI h 66 x1)) := (fun e => c28 ((Jle (rg_toInt _) (rg_toInt _)).mpr e))
    replace w := w.2 t29
    exact ⟨(Or.inr (by trivial)), w⟩
theorem m149 {X : Cst} {d : Nat} {pl : Nat} {p q : Int} {S : Int → Int} {h : AH} {Q : Post} (C : Lay h) (P : hR h 52 0 = some pl) (K : PlanAt h pl) (hd : 4 ≤ d) (R : CS h pl S) (W : WF 999 S) (hp : 0 ≤ p ∧ p < S 2) (hq : 0 ≤ q ∧ q < S 2) (k : Q (some (.int (J (bI (nearP S p (pS S q 0)))))) h) : Ex X PG d 149 0 [some (.ref 0), some (.int (J p)), some (.int (J q)), none, none, none] [] h Q := by
  obtain ⟨d, rfl⟩ : ∃ e, d = e + 1 := ⟨d - 1, by omega⟩
  have b := W.1
  unfold WFb at b
  have pp := W.2.1 p hp.1 hp.2
  have pq := W.2.1 q hq.1 hq.2
  have w1 := R.2.2.1.1 p hp.1 hp.2
  have w2 := R.2.2.1.1 q hq.1 hq.2
  refine r149_0 (S := S) C K P (by omega) ?_
  rw [show aI h 65 p = pS S p 0 from w1.1, show aI h 66 p = pS S p 1 from w1.2.1, show aI h 65 q = pS S q 0 from w2.1]
  have l := fun x y (hx : 0 ≤ x ∧ x < S 0) (hy : 0 ≤ y ∧ y < S 0) => R.2.1.2.2.2.2.2.2.2.2 (bI (nightP S)) x y (by have := bI_or (nightP S); omega) (by have := bI_or (nightP S); omega) hx.1 hx.2 hy.1 hy.2
  have e1 : (bI (nightP S) = 1) = nightP S := bI_1 _
  have bb := bI_or (nightP S)
  rw [l _ _ (by omega) (by omega), l _ _ (by omega) (by omega), e1]
  unfold nearP at k
  refine ⟨by omega, R, W, by omega, by omega, by omega, fun c => ?_, fun c => ?_⟩
  · rw [bI_neg (by omega)] at k; exact k
  · rw [bI_pos (by omega)] at k; exact k
-- OutwardDoors.swap(I)I at 0
set_option maxRecDepth 20000 in
set_option maxHeartbeats 4000000 in
theorem r148_0 {X : Cst} {d : Nat} {x1 : Int} {pl : Nat} {S : Int → Int} {h : AH} {Q : Post} (C_h : Lay h) (K_h_0 : PlanAt h pl) (P_h : hR h 52 0 = some pl) (hd : 1 ≤ d)
  (w : (CS h pl S) ∧ ((¬ (0 < S 0) → Q (some (.int (J (-1)))) h) ∧ ((0 < S 0) → (-2147483648 ≤ x1 ∧ x1 < 2147483648) ∧ ((x1 < 0 → Q (some (.int (J (-1)))) h) ∧ (¬ x1 < 0 → ((x1 ≤ 2 → Ex X PG (d + 1) 148 30 [some (.ref 0), some (.int (J x1)), some (.int (J 0)), some (.int (J (-2))), some (.int (J (-2))), some (.int (J 0)), none] [] h Q) ∧ (¬ x1 ≤ 2 → Q (some (.int (J (-1)))) h))))))) :
    Ex X PG (d + 1) 148 0 [some (.ref 0), some (.int (J x1)), none, none, none, none, none] [] h Q := by
  refine wpx_ok (cut := [30, 51]) 16 d 148 0 _ _ _ _ ?_
  show hs h 0 = (0, 10) ∧ Ex X PG d 86 0 [some (.ref 0)] [] h (fun v1 h2 => ∃ r3, v1 = some (.int r3) ∧ ((r3 = (J 0) → Q (some (.int (J (-1)))) h2) ∧ (¬ (r3 = (J 0)) → (((J x1) < (J 0) → Q (some (.int (J (-1)))) h2) ∧ (¬ ((J x1) < (J 0)) → (((J x1) ≤ (J 2) → Ex X PG (d + 1) 148 30 [some (.ref 0), some (.int (J x1)), some (.int (J 0)), some (.int (J (-2))), some (.int (J (-2))), some (.int (J 0)), none] [] h2 Q) ∧ (¬ ((J x1) ≤ (J 2)) → Q (some (.int (J (-1)))) h2)))))))
  try simp only [aI_wAL, fI_wAL, aL_wA, aL_wF, aI_wA_ne, aI_wF_ne, fI_wA_ne, fI_wF_ne, fI_wF_nk, aL_wAL_ne, J_sameA, J_sameF, aL_same, Nat.add_left_cancel_iff, Nat.add_eq_left, Nat.left_eq_add, not_false_eq_true, Nat.reduceEqDiff, Nat.reduceAdd, J_add, J_sub, J_mul, J_neg, J_and, J_or, J_xor, J_shl, J_shr, J_div, J_i2b, J_i2l, J_l2i, J_lcm, J_max, J_min, J_nab, J_nao, rdA, rdF, rdL, wA_fold, wF_fold, wL_fold, wC_fold]
  refine ⟨(ls0 C_h), ?_⟩
  obtain ⟨k4, w⟩ := w
  refine m86 (h := h)  (S := S) (pl := pl) C_h P_h K_h_0 (by omega) k4 ?_
  refine ⟨_, rfl, ?_⟩
  try simp only [aI_wAL, fI_wAL, aL_wA, aL_wF, aI_wA_ne, aI_wF_ne, fI_wA_ne, fI_wF_ne, fI_wF_nk, aL_wAL_ne, J_sameA, J_sameF, aL_same, Nat.add_left_cancel_iff, Nat.add_eq_left, Nat.left_eq_add, not_false_eq_true, Nat.reduceEqDiff, Nat.reduceAdd, J_add, J_sub, J_mul, J_neg, J_and, J_or, J_xor, J_shl, J_shr, J_div, J_i2b, J_i2l, J_l2i, J_lcm, J_max, J_min, J_nab, J_nao, rdA, rdF, rdL, wA_fold, wF_fold, wL_fold, wC_fold]
  refine ⟨fun c5 => ?_, fun c5 => ?_⟩
  · have t6 : ¬ (0 < S 0) := ((bI0 _).mp c5)
    replace w := w.1 t6
    exact w
  · have t6 : (0 < S 0) := (Classical.byContradiction fun n => c5 ((bI0 _).mpr n))
    replace w := w.2 t6
    obtain ⟨k9, w⟩ := w
    refine ⟨fun c7 => ?_, fun c7 => ?_⟩
    · have t8 : x1 < 0 := ((Jlt k9 (by decide)).mp c7)
      replace w := w.1 t8
      exact w
    · have t8 : ¬ x1 < 0 := (fun e => c7 ((Jlt k9 (by decide)).mpr e))
      replace w := w.2 t8
      refine ⟨fun c10 => ?_, fun c10 => ?_⟩
      · have t11 : x1 ≤ 2 := ((Jle k9 (by decide)).mp c10)
        replace w := w.1 t11
        exact w
      · have t11 : ¬ x1 ≤ 2 := (fun e => c10 ((Jle k9 (by decide)).mpr e))
        replace w := w.2 t11
        exact w
-- OutwardDoors.swap(I)I at 30
set_option maxRecDepth 20000 in
set_option maxHeartbeats 4000000 in
theorem r148_30 {X : Cst} {d : Nat} {x1 : Int} {x2 : Int} {x3 : Int} {x4 : Int} {x5 : Int} {l6 : Option Value} {pl : Nat} {h : AH} {Q : Post} (C_h : Lay h) (K_h_0 : PlanAt h pl) (P_h : hR h 52 0 = some pl)
  (w : (-2147483648 ≤ x5 ∧ x5 < 2147483648) ∧ ((fI h pl 2 ≤ x5 → (-2147483648 ≤ x1 ∧ x1 < 2147483648) ∧ ((¬ x1 = 0 → ((¬ x1 = 1 → Q (some (.int (J x4))) h) ∧ (x1 = 1 → Q (some (.int (J x3))) h))) ∧ (x1 = 0 → Q (some (.int (J x2))) h))) ∧ (¬ fI h pl 2 ≤ x5 → Ex X PG (d + 1) 148 51 [some (.ref 0), some (.int (J x1)), some (.int (J x2)), some (.int (J x3)), some (.int (J x4)), some (.int (J x5)), some (.int (J (x5 + 1)))] [] h Q))) :
    Ex X PG (d + 1) 148 30 [some (.ref 0), some (.int (J x1)), some (.int (J x2)), some (.int (J x3)), some (.int (J x4)), some (.int (J x5)), l6] [] h Q := by
  refine wpx_ok (cut := [30, 51]) 14 d 148 30 _ _ _ _ ?_
  show hs h 0 = (0, 10) ∧ ∃ q1, hR h 0 5 = some q1 ∧ hs h q1 = (0, 6) ∧ ∃ q2, hR h q1 0 = some q2 ∧ hs h q2 = (0, 2) ∧ (((hF h q2 2) ≤ (J x5) → ((¬ (J x1) = (J 0) → ((¬ (J x1) = (J 1) → Q (some (.int (J x4))) h) ∧ (¬ (¬ (J x1) = (J 1)) → Q (some (.int (J x3))) h))) ∧ (¬ (¬ (J x1) = (J 0)) → Q (some (.int (J x2))) h))) ∧ (¬ ((hF h q2 2) ≤ (J x5)) → Ex X PG (d + 1) 148 51 [some (.ref 0), some (.int (J x1)), some (.int (J x2)), some (.int (J x3)), some (.int (J x4)), some (.int (J x5)), some (.int ((J x5) + (J 1)))] [] h Q))
  try simp only [aI_wAL, fI_wAL, aL_wA, aL_wF, aI_wA_ne, aI_wF_ne, fI_wA_ne, fI_wF_ne, fI_wF_nk, aL_wAL_ne, J_sameA, J_sameF, aL_same, Nat.add_left_cancel_iff, Nat.add_eq_left, Nat.left_eq_add, not_false_eq_true, Nat.reduceEqDiff, Nat.reduceAdd, J_add, J_sub, J_mul, J_neg, J_and, J_or, J_xor, J_shl, J_shr, J_div, J_i2b, J_i2l, J_l2i, J_lcm, J_max, J_min, J_nab, J_nao, rdA, rdF, rdL, wA_fold, wF_fold, wL_fold, wC_fold]
  refine ⟨(ls0 C_h), _, (lr0_5 C_h), ?_⟩
  refine ⟨(ls52 C_h), _, P_h, ?_⟩
  refine ⟨(plan_0 K_h_0), ?_⟩
  obtain ⟨k5, w⟩ := w
  refine ⟨fun c3 => ?_, fun c3 => ?_⟩
  · have t4 : fI h pl 2 ≤ x5 := ((Jle (rg_toInt _) k5).mp c3)
    replace w := w.1 t4
    obtain ⟨k8, w⟩ := w
    refine ⟨fun c6 => ?_, fun c6 => ?_⟩
    · have t7 : ¬ x1 = 0 := (fun e => c6 ((Jeq k8 (by decide)).mpr e))
      replace w := w.1 t7
      refine ⟨fun c9 => ?_, fun c9 => ?_⟩
      · have t10 : ¬ x1 = 1 := (fun e => c9 ((Jeq k8 (by decide)).mpr e))
        replace w := w.1 t10
        exact w
      · have t10 : x1 = 1 := ((Jeq k8 (by decide)).mp (Classical.byContradiction c9))
        replace w := w.2 t10
        exact w
    · have t7 : x1 = 0 := ((Jeq k8 (by decide)).mp (Classical.byContradiction c6))
      replace w := w.2 t7
      exact w
  · have t4 : ¬ fI h pl 2 ≤ x5 := (fun e => c3 ((Jle (rg_toInt _) k5).mpr e))
    replace w := w.2 t4
    exact w
-- OutwardDoors.swap(I)I at 51
set_option maxRecDepth 20000 in
set_option maxHeartbeats 4000000 in
theorem r148_51 {X : Cst} {d : Nat} {x1 : Int} {x2 : Int} {x3 : Int} {x4 : Int} {x5 : Int} {x6 : Int} {pl : Nat} {S : Int → Int} {h : AH} {Q : Post} (C_h : Lay h) (K_h_0 : PlanAt h pl) (P_h : hR h 52 0 = some pl) (hd : 4 ≤ d)
  (w : (-2147483648 ≤ x6 ∧ x6 < 2147483648) ∧ ((fI h pl 2 ≤ x6 → Ex X PG (d + 1) 148 30 [some (.ref 0), some (.int (J x1)), some (.int (J x2)), some (.int (J x3)), some (.int (J x4)), some (.int (J (x5 + 1))), some (.int (J x6))] [] h Q) ∧ (¬ fI h pl 2 ≤ x6 → (CS h pl S) ∧ (WF 999 S) ∧ (0 ≤ x5 ∧ x5 < S 2) ∧ (0 ≤ x6 ∧ x6 < S 2) ∧ ((¬ (nearP S x5 (pS S x6 0)) → Ex X PG (d + 1) 148 51 [some (.ref 0), some (.int (J x1)), some (.int (J x2)), some (.int (J x3)), some (.int (J x4)), some (.int (J x5)), some (.int (J (x6 + 1)))] [] h Q) ∧ ((nearP S x5 (pS S x6 0)) → ((¬ (nearP S x6 (pS S x5 0)) → Ex X PG (d + 1) 148 51 [some (.ref 0), some (.int (J x1)), some (.int (J x2)), some (.int (J x3)), some (.int (J x4)), some (.int (J x5)), some (.int (J (x6 + 1)))] [] h Q) ∧ ((nearP S x6 (pS S x5 0)) → (-2147483648 ≤ x2 ∧ x2 < 2147483648) ∧ ((¬ x2 = 0 → Ex X PG (d + 1) 148 51 [some (.ref 0), some (.int (J x1)), some (.int (J (x2 + 1))), some (.int (J x3)), some (.int (J x4)), some (.int (J x5)), some (.int (J (x6 + 1)))] [] h Q) ∧ (x2 = 0 → Ex X PG (d + 1) 148 51 [some (.ref 0), some (.int (J x1)), some (.int (J (x2 + 1))), some (.int (J x5)), some (.int (J x6)), some (.int (J x5)), some (.int (J (x6 + 1)))] [] h Q))))))))) :
    Ex X PG (d + 1) 148 51 [some (.ref 0), some (.int (J x1)), some (.int (J x2)), some (.int (J x3)), some (.int (J x4)), some (.int (J x5)), some (.int (J x6))] [] h Q := by
  refine wpx_ok (cut := [30, 51]) 25 d 148 51 _ _ _ _ ?_
  show hs h 0 = (0, 10) ∧ ∃ q1, hR h 0 5 = some q1 ∧ hs h q1 = (0, 6) ∧ ∃ q2, hR h q1 0 = some q2 ∧ hs h q2 = (0, 2) ∧ (((hF h q2 2) ≤ (J x6) → Ex X PG (d + 1) 148 30 [some (.ref 0), some (.int (J x1)), some (.int (J x2)), some (.int (J x3)), some (.int (J x4)), some (.int ((J x5) + (J 1))), some (.int (J x6))] [] h Q) ∧ (¬ ((hF h q2 2) ≤ (J x6)) → hs h 0 = (0, 10) ∧ Ex X PG d 149 0 [some (.ref 0), some (.int (J x5)), some (.int (J x6)), none, none, none] [] h (fun v6 h7 => ∃ r8, v6 = some (.int r8) ∧ ((r8 = (J 0) → Ex X PG (d + 1) 148 51 [some (.ref 0), some (.int (J x1)), some (.int (J x2)), some (.int (J x3)), some (.int (J x4)), some (.int (J x5)), some (.int ((J x6) + (J 1)))] [] h7 Q) ∧ (¬ (r8 = (J 0)) → hs h7 0 = (0, 10) ∧ Ex X PG d 149 0 [some (.ref 0), some (.int (J x6)), some (.int (J x5)), none, none, none] [] h7 (fun v15 h16 => ∃ r17, v15 = some (.int r17) ∧ ((r17 = (J 0) → Ex X PG (d + 1) 148 51 [some (.ref 0), some (.int (J x1)), some (.int (J x2)), some (.int (J x3)), some (.int (J x4)), some (.int (J x5)), some (.int ((J x6) + (J 1)))] [] h16 Q) ∧ (¬ (r17 = (J 0)) → ((¬ (J x2) = (J 0) → Ex X PG (d + 1) 148 51 [some (.ref 0), some (.int (J x1)), some (.int ((J x2) + (J 1))), some (.int (J x3)), some (.int (J x4)), some (.int (J x5)), some (.int ((J x6) + (J 1)))] [] h16 Q) ∧ (¬ (¬ (J x2) = (J 0)) → Ex X PG (d + 1) 148 51 [some (.ref 0), some (.int (J x1)), some (.int ((J x2) + (J 1))), some (.int (J x5)), some (.int (J x6)), some (.int (J x5)), some (.int ((J x6) + (J 1)))] [] h16 Q))))))))))
  try simp only [aI_wAL, fI_wAL, aL_wA, aL_wF, aI_wA_ne, aI_wF_ne, fI_wA_ne, fI_wF_ne, fI_wF_nk, aL_wAL_ne, J_sameA, J_sameF, aL_same, Nat.add_left_cancel_iff, Nat.add_eq_left, Nat.left_eq_add, not_false_eq_true, Nat.reduceEqDiff, Nat.reduceAdd, J_add, J_sub, J_mul, J_neg, J_and, J_or, J_xor, J_shl, J_shr, J_div, J_i2b, J_i2l, J_l2i, J_lcm, J_max, J_min, J_nab, J_nao, rdA, rdF, rdL, wA_fold, wF_fold, wL_fold, wC_fold]
  refine ⟨(ls0 C_h), _, (lr0_5 C_h), ?_⟩
  refine ⟨(ls52 C_h), _, P_h, ?_⟩
  refine ⟨(plan_0 K_h_0), ?_⟩
  obtain ⟨k5, w⟩ := w
  refine ⟨fun c3 => ?_, fun c3 => ?_⟩
  · have t4 : fI h pl 2 ≤ x6 := ((Jle (rg_toInt _) k5).mp c3)
    replace w := w.1 t4
    exact w
  · have t4 : ¬ fI h pl 2 ≤ x6 := (fun e => c3 ((Jle (rg_toInt _) k5).mpr e))
    replace w := w.2 t4
    refine ⟨(ls0 C_h), ?_⟩
    obtain ⟨k9, w⟩ := w
    obtain ⟨k10, w⟩ := w
    obtain ⟨k11, w⟩ := w
    obtain ⟨k12, w⟩ := w
    refine m149 (h := h) (p := x5) (q := x6) (S := S) (pl := pl) C_h P_h K_h_0 (by omega) k9 k10 k11 k12 ?_
    refine ⟨_, rfl, ?_⟩
    try simp only [aI_wAL, fI_wAL, aL_wA, aL_wF, aI_wA_ne, aI_wF_ne, fI_wA_ne, fI_wF_ne, fI_wF_nk, aL_wAL_ne, J_sameA, J_sameF, aL_same, Nat.add_left_cancel_iff, Nat.add_eq_left, Nat.left_eq_add, not_false_eq_true, Nat.reduceEqDiff, Nat.reduceAdd, J_add, J_sub, J_mul, J_neg, J_and, J_or, J_xor, J_shl, J_shr, J_div, J_i2b, J_i2l, J_l2i, J_lcm, J_max, J_min, J_nab, J_nao, rdA, rdF, rdL, wA_fold, wF_fold, wL_fold, wC_fold]
    refine ⟨fun c13 => ?_, fun c13 => ?_⟩
    · have t14 : ¬ (nearP S x5 (pS S x6 0)) := ((bI0 _).mp c13)
      replace w := w.1 t14
      exact w
    · have t14 : (nearP S x5 (pS S x6 0)) := (Classical.byContradiction fun n => c13 ((bI0 _).mpr n))
      replace w := w.2 t14
      refine ⟨(ls0 C_h), ?_⟩
      refine m149 (h := h) (p := x6) (q := x5) (S := S) (pl := pl) C_h P_h K_h_0 (by omega) k9 k10 k12 k11 ?_
      refine ⟨_, rfl, ?_⟩
      try simp only [aI_wAL, fI_wAL, aL_wA, aL_wF, aI_wA_ne, aI_wF_ne, fI_wA_ne, fI_wF_ne, fI_wF_nk, aL_wAL_ne, J_sameA, J_sameF, aL_same, Nat.add_left_cancel_iff, Nat.add_eq_left, Nat.left_eq_add, not_false_eq_true, Nat.reduceEqDiff, Nat.reduceAdd, J_add, J_sub, J_mul, J_neg, J_and, J_or, J_xor, J_shl, J_shr, J_div, J_i2b, J_i2l, J_l2i, J_lcm, J_max, J_min, J_nab, J_nao, rdA, rdF, rdL, wA_fold, wF_fold, wL_fold, wC_fold]
      refine ⟨fun c18 => ?_, fun c18 => ?_⟩
      · have t19 : ¬ (nearP S x6 (pS S x5 0)) := ((bI0 _).mp c18)
        replace w := w.1 t19
        exact w
      · have t19 : (nearP S x6 (pS S x5 0)) := (Classical.byContradiction fun n => c18 ((bI0 _).mpr n))
        replace w := w.2 t19
        obtain ⟨k22, w⟩ := w
        refine ⟨fun c20 => ?_, fun c20 => ?_⟩
        · have t21 : ¬ x2 = 0 := (fun e => c20 ((Jeq k22 (by decide)).mpr e))
          replace w := w.1 t21
          exact w
        · have t21 : x2 = 0 := ((Jeq k22 (by decide)).mp (Classical.byContradiction c20))
          replace w := w.2 t21
          exact w
/-- what was found so far, and what follows -/
noncomputable def cmb (t r : Int × Int × Int) : Int × Int × Int := if t.1 = 0 then r else (t.1 + r.1, t.2)
theorem cmb_end {t : Int × Int × Int} (h : t.1 = 0 → t = (0, -2, -2)) : cmb t (0, -2, -2) = t := by
  unfold cmb
  by_cases c : t.1 = 0
  · rw [if_pos c]; exact (h c).symm
  · rw [if_neg c]; show (t.1 + 0, t.2) = t; rw [Int.add_zero]
theorem m148 {X : Cst} {d : Nat} {pl : Nat} {w : Int} {S : Int → Int} {h : AH} {Q : Post} (C : Lay h) (P : hR h 52 0 = some pl) (K : PlanAt h pl) (hd : 5 ≤ d) (R : CS h pl S) (W : WF 999 S) (g1 : -2147483648 ≤ w ∧ w < 2147483648)
    (k : Q (some (.int (J (anSwap S w)))) h) : Ex X PG d 148 0 [some (.ref 0), some (.int (J w)), none, none, none, none, none] [] h Q := by
  obtain ⟨d, rfl⟩ : ∃ e, d = e + 1 := ⟨d - 1, by omega⟩
  have b := W.1
  unfold WFb at b
  unfold anSwap at k
  have p2 := R.2.1.1.2.2.1
  refine r148_0 (S := S) C K P (by omega) ⟨R, fun c => ?_, fun c => ⟨g1, fun c2 => ?_, fun c2 => ⟨fun c3 => ?_, fun c3 => ?_⟩⟩⟩
  · rw [if_neg (fun z => c z.1)] at k; exact k
  · rw [if_neg (fun z => absurd z.2.1 (by omega))] at k; exact k
  · rw [if_pos ⟨c, by omega, c3⟩] at k
    have lo : ∀ (kk : Nat) (p : Int) (t : Int × Int × Int) (l6 : Option Value), S 2 = p + kk → 0 ≤ p → 0 ≤ t.1 ∧ t.1 ≤ 10 * p → (t.1 = 0 → t = (0, -2, -2)) → cmb t (swO S kk) = swO S (S 2).toNat → Ex X PG (d + 1) 148 30 [some (.ref 0), some (.int (J w)), some (.int (J t.1)), some (.int (J t.2.1)), some (.int (J t.2.2)), some (.int (J p)), l6] [] h Q := by
      intro kk
      induction kk with
      | zero =>
        intro p t l6 e1 e0 eb ez e2
        refine r148_30 C K P ?_
        rw [p2]
        rw [show swO S 0 = (0, -2, -2) from rfl, cmb_end ez] at e2
        rw [← e2] at k
        refine ⟨by omega, fun _ => ⟨g1, fun c4 => ⟨fun c5 => ?_, fun c5 => ?_⟩, fun c4 => ?_⟩, fun z => absurd (by omega) z⟩
        · rw [if_neg c4, if_neg c5] at k; exact k
        · rw [if_neg c4, if_pos c5] at k; exact k
        · rw [if_pos c4] at k; exact k
      | succ kk ih =>
        intro p t l6 e1 e0 eb ez e2
        refine r148_30 C K P ?_
        rw [p2]
        refine ⟨by omega, fun z => absurd z (by omega), fun _ => ?_⟩
        have li : ∀ (bb : Nat) (q : Int) (t : Int × Int × Int), S 2 = q + bb → p < q → 0 ≤ t.1 ∧ t.1 ≤ 10 * p + q → (t.1 = 0 → t = (0, -2, -2)) → cmb t (swJ S p bb (swO S kk)) = swO S (S 2).toNat → Ex X PG (d + 1) 148 51 [some (.ref 0), some (.int (J w)), some (.int (J t.1)), some (.int (J t.2.1)), some (.int (J t.2.2)), some (.int (J p)), some (.int (J q))] [] h Q := by
          intro bb
          induction bb with
          | zero =>
            intro q t i1 i0 ib iz i2
            refine r148_51 (S := S) C K P (by omega) ?_
            rw [p2]
            exact ⟨by omega, fun _ => ih (p + 1) t _ (by omega) (by omega) (by omega) iz i2, fun z => absurd (by omega) z⟩
          | succ bb ih2 =>
            intro q t i1 i0 ib iz i2
            refine r148_51 (S := S) C K P (by omega) ?_
            rw [p2]
            have un : swJ S p (bb + 1) (swO S kk) = pI (swp S p (S 2 - 1 - bb)) ((swJ S p bb (swO S kk)).1 + 1, p, S 2 - 1 - (bb : Int)) (swJ S p bb (swO S kk)) := rfl
            rw [show S 2 - 1 - (bb : Int) = q by omega] at un
            rw [un] at i2
            have no : ¬ swp S p q → Ex X PG (d + 1) 148 51 [some (.ref 0), some (.int (J w)), some (.int (J t.1)), some (.int (J t.2.1)), some (.int (J t.2.2)), some (.int (J p)), some (.int (J (q + 1)))] [] h Q := by
              intro c4
              rw [pI_neg c4] at i2
              exact ih2 (q + 1) t (by omega) (by omega) (by omega) iz i2
            refine ⟨by omega, fun z => absurd z (by omega), fun _ => ⟨R, W, by omega, by omega, fun c4 => no (fun z => c4 z.1), fun c4 => ⟨fun c5 => no (fun z => c5 z.2), fun c5 => ⟨by omega, fun c6 => ?_, fun c6 => ?_⟩⟩⟩⟩
            · rw [pI_pos ⟨c4, c5⟩] at i2
              refine ih2 (q + 1) (t.1 + 1, t.2) (by omega) (by omega) (by show 0 ≤ t.1 + 1 ∧ t.1 + 1 ≤ _; omega) (fun z => absurd (show t.1 + 1 = 0 from z) (by omega)) ?_
              rw [← i2]
              unfold cmb
              rw [if_neg c6, if_neg (show ¬ t.1 + 1 = 0 by omega)]
              show (t.1 + 1 + (swJ S p bb (swO S kk)).1, t.2) = (t.1 + ((swJ S p bb (swO S kk)).1 + 1), t.2)
              rw [show t.1 + 1 + (swJ S p bb (swO S kk)).1 = t.1 + ((swJ S p bb (swO S kk)).1 + 1) by omega]
            · rw [pI_pos ⟨c4, c5⟩] at i2
              refine ih2 (q + 1) (t.1 + 1, p, q) (by omega) (by omega) (by show 0 ≤ t.1 + 1 ∧ t.1 + 1 ≤ _; omega) (fun z => absurd (show t.1 + 1 = 0 from z) (by omega)) ?_
              rw [← i2]
              unfold cmb
              rw [if_pos c6, if_neg (show ¬ t.1 + 1 = 0 by omega)]
              show (t.1 + 1 + (swJ S p bb (swO S kk)).1, p, q) = ((swJ S p bb (swO S kk)).1 + 1, p, q)
              rw [show t.1 + 1 + (swJ S p bb (swO S kk)).1 = (swJ S p bb (swO S kk)).1 + 1 by omega]
        refine li kk (p + 1) t (by omega) (by omega) (by omega) ez ?_
        rw [← e2]
        show _ = cmb t (swJ S (S 2 - 1 - kk) kk (swO S kk))
        rw [show S 2 - 1 - (kk : Int) = p by omega]
    exact lo (S 2).toNat 0 (0, -2, -2) none (by omega) (by omega) (by decide) (fun _ => rfl) (by unfold cmb; exact if_pos rfl)
  · rw [if_neg (fun z => c3 z.2.2)] at k; exact k
