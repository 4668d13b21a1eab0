/-! THE REFERENCE: days. -/
theorem aimD_WF {N : Int} {S : Int → Int} (W : WF N S) (x : Int) : WF N (aimD S x) := by
  have b := W.1
  unfold WFb at b
  unfold aimD
  by_cases c : S 2 = 0
  · rw [if_pos c]; exact W
  · rw [if_neg c]
    have p0 : 0 < S 2 := by omega
    have s0 : 0 < S 0 := by have := W.2.1 0 (by omega) p0; omega
    have q1 := drq_b (x := dr x) p0
    have q2 := drq_b (x := dr (dr x)) s0
    have k : ∀ k, 0 ≤ k → k < 2147483648 → (k < 10 ∨ 34 ≤ k) → uu_ S (10 + 6 * drq (dr x) (S 2) + 1) (drq (dr (dr x)) (S 0)) k = S k := fun k k0 k1 k2 => uu_ne (by omega) (by omega) (by omega)
    obtain ⟨-, wp, wf, wdd, wu, wn', wt⟩ := W
    have e0 := k 0 (by omega) (by omega) (by omega)
    have e1 := k 1 (by omega) (by omega) (by omega)
    have e2 := k 2 (by omega) (by omega) (by omega)
    have ef : ∀ r, 0 ≤ r → r < 8 → uu_ S (10 + 6 * drq (dr x) (S 2) + 1) (drq (dr (dr x)) (S 0)) (34 + r) = S (34 + r) := fun r h1 h2 => k _ (by omega) (by omega) (by omega)
    have en : ∀ d, 0 ≤ d → d < S 1 → nr (uu_ S (10 + 6 * drq (dr x) (S 2) + 1) (drq (dr (dr x)) (S 0))) d = nr S d ∧ fr (uu_ S (10 + 6 * drq (dr x) (S 2) + 1) (drq (dr (dr x)) (S 0))) d = fr S d ∧ wn (uu_ S (10 + 6 * drq (dr x) (S 2) + 1) (drq (dr (dr x)) (S 0))) d = wn S d := fun d h1 h2 => ⟨k _ (by omega) (by omega) (by omega), k _ (by omega) (by omega) (by omega), k _ (by omega) (by omega) (by omega)⟩
    refine ⟨?_, ?_, ?_, ?_, ?_, ?_, ?_⟩
    · unfold WFb
      rw [e0, e1, e2, k 3 (by omega) (by omega) (by omega), k 4 (by omega) (by omega) (by omega), k 5 (by omega) (by omega) (by omega)]
      exact b
    · intro p h1 h2
      rw [e2] at h2
      rw [e0]
      have pp := wp p h1 h2
      have o : ∀ w, 0 ≤ w → w < 6 → ¬ w = 1 → pS (uu_ S (10 + 6 * drq (dr x) (S 2) + 1) (drq (dr (dr x)) (S 0))) p w = pS S p w := fun w w0 w1 w2 => uu_ne (by omega) (by omega) (by omega)
      rw [o 0 (by omega) (by omega) (by omega), o 2 (by omega) (by omega) (by omega), o 3 (by omega) (by omega) (by omega), o 4 (by omega) (by omega) (by omega), o 5 (by omega) (by omega) (by omega)]
      have r1 : 0 ≤ pS (uu_ S (10 + 6 * drq (dr x) (S 2) + 1) (drq (dr (dr x)) (S 0))) p 1 ∧ pS (uu_ S (10 + 6 * drq (dr x) (S 2) + 1) (drq (dr (dr x)) (S 0))) p 1 < S 0 := by
        unfold pS
        by_cases e : p = drq (dr x) (S 2)
        · subst e; rw [uu_eq]; omega
        · rw [uu_ne (by omega) (by omega) (by omega)]; unfold pS at pp; omega
      omega
    · intro r h1 h2; rw [ef r h1 h2]; exact wf r h1 h2
    · intro d h1 h2
      rw [e1] at h2
      have q := en d h1 h2
      have dd := wdd d h1 h2
      rw [q.1, q.2.1, q.2.2, e0, ef _ dd.1 (by omega), ef _ dd.2.2.1 (by omega)]
      exact dd
    · intro d e h1 h2 h3 h4
      rw [e1] at h2 h4
      rw [(en d h1 h2).1, (en e h3 h4).1, (en d h1 h2).2.1, (en e h3 h4).2.1]
      exact wu d e h1 h2 h3 h4
    · have q := k 114 (by omega) (by omega) (by omega)
      refine ⟨by rw [q]; exact wn'.1, by rw [q]; exact wn'.2.1, fun j h1 h2 => ?_⟩
      rw [q] at h2
      have l := wn'.2.1
      rw [e0, e2, k (84 + 3 * j) (by omega) (by omega) (by omega), k (84 + 3 * j + 1) (by omega) (by omega) (by omega), k (84 + 3 * j + 2) (by omega) (by omega) (by omega)]
      exact wn'.2.2 j h1 h2
    · intro p h1 h2
      rw [e2] at h2
      rw [e0, k (115 + 2 * p) (by omega) (by omega) (by omega), k (115 + 2 * p + 1) (by omega) (by omega) (by omega)]
      exact wt p h1 h2
theorem aimD_k {N : Int} {S : Int → Int} (W : WF N S) {x k : Int} (hk : 0 ≤ k ∧ k < 2147483648) (h : k < 10 ∨ 34 ≤ k ∨ ¬ (k - 10) % 6 = 1) : aimD S x k = S k := by
  have b := W.1
  unfold WFb at b
  unfold aimD
  by_cases c : S 2 = 0
  · rw [if_pos c]
  · rw [if_neg c]
    have q1 := drq_b (x := dr x) (n := S 2) (by omega)
    exact uu_ne (by omega) hk (by omega)
theorem Tn_aimD {S : Int → Int} (h : Tn S) (x : Int) : Tn (aimD S x) := by
  unfold aimD
  by_cases c : S 2 = 0
  · rw [if_pos c]; exact h
  · rw [if_neg c]; exact Tn_uu h
/-- how many come in, go out in a MOMENT -/
noncomputable def cN (f : Int) (Rs : Int → Ru) (w : Int) (S : Int → Int) : Int := if w = 0 then cnt (cmI S (wdo S f Rs)) (S 2) else cnt (gO S (wdo S f Rs)) (S 2)
noncomputable def dyc (f : Int) (Rs : Int → Ru) (w : Int) : Nat → (Int → Int) → Int → Int
  | 0, _, _ => 0
  | n + 1, S, x => cN f Rs w (aimD S x) + dyc f Rs w n (mo1 f Rs (aimD S x)) (xD S x)
def dyx (S : Int → Int) : Nat → Int → Int
  | 0, x => x
  | n + 1, x => dyx S n (xD S x)
noncomputable def dym (f : Int) (Rs : Int → Ru) (w : Int) (S : Int → Int) (n : Nat) : Nat → Int → Int
  | 0, _ => 0
  | m + 1, x => dyc f Rs w n S x + dym f Rs w S n m (dyx S n x)
theorem sumN_add {g h : Int → Int} : ∀ n : Nat, sumN n (fun p => g p + h p) = sumN n g + sumN n h := by
  intro n
  induction n with
  | zero => rfl
  | succ n ih => show sumN n _ + (g n + h n) = sumN n g + g n + (sumN n h + h n); rw [ih]; omega
theorem sumN_cong {g h : Int → Int} : ∀ n : Nat, (∀ p : Int, 0 ≤ p → p < n → g p = h p) → sumN n g = sumN n h := by
  intro n
  induction n with
  | zero => intro _; rfl
  | succ n ih =>
    intro e
    show sumN n g + g n = sumN n h + h n
    rw [ih (fun p a b => e p a (by omega)), e n (by omega) (by omega)]
theorem cN_sum {N : Int} {f w : Int} {Rs : Int → Ru} {S : Int → Int} (W : WF N S) (hw : 0 ≤ w ∧ w ≤ 1) : sumN (S 2).toNat (fun p => pS (mo1 f Rs S) p (3 + w)) = sumN (S 2).toNat (fun p => pS S p (3 + w)) + cN f Rs w S := by
  have b := W.1
  unfold WFb at b
  have : w = 0 ∨ w = 1 := by omega
  rcases this with rfl | rfl
  · rw [sumN_cong (h := fun p => pS S p (3 + 0) + bI (cmI S (wdo S f Rs) p)) _ (fun p p0 p1 => ?_), sumN_add]
    · rfl
    · show pS (mom S (wdo S f Rs)) p (3 + 0) = _
      rw [mom_p (by omega) (by omega) (by decide)]; rfl
  · rw [sumN_cong (h := fun p => pS S p (3 + 1) + bI (gO S (wdo S f Rs) p)) _ (fun p p0 p1 => ?_), sumN_add]
    · rfl
    · show pS (mom S (wdo S f Rs)) p (3 + 1) = _
      rw [mom_p (by omega) (by omega) (by decide)]; rfl
theorem aimD_sum {N : Int} {w x : Int} {S : Int → Int} (W : WF N S) (hw : 0 ≤ w ∧ w ≤ 1) : sumN (S 2).toNat (fun p => pS (aimD S x) p (3 + w)) = sumN (S 2).toNat (fun p => pS S p (3 + w)) := by
  have b := W.1
  unfold WFb at b
  exact sumN_cong _ fun p p0 p1 => aimD_k W (by omega) (by omega)
theorem xD_b {S : Int → Int} {x : Int} (h : 0 ≤ x ∧ x < 2147483648) : 0 ≤ xD S x ∧ xD S x < 2147483648 := by
  unfold xD
  split
  · exact h
  · exact dr_b _
theorem dyx_b {S : Int → Int} : ∀ (n : Nat) (x : Int), 0 ≤ x ∧ x < 2147483648 → 0 ≤ dyx S n x ∧ dyx S n x < 2147483648 := by
  intro n
  induction n with
  | zero => intro x h; exact h
  | succ n ih => intro x h; exact ih _ (xD_b h)
noncomputable def anDays (f : Int) (Rs : Int → Ru) (S : Int → Int) (x m n w : Int) : Int := if 0 < S 0 ∧ (1 ≤ m ∧ m ≤ 10) ∧ (1 ≤ n ∧ n ≤ 60) ∧ (0 ≤ w ∧ w ≤ 1) then dym f Rs w S n.toNat m.toNat x else -1
-- OutwardDoorsModel.days(III)I at 0
set_option maxRecDepth 20000 in
set_option maxHeartbeats 4000000 in
theorem r283_0 {X : Cst} {d : Nat} {x1 : Int} {x2 : Int} {x3 : Int} {h : AH} {Q : Post} (C_h : Lay h) (hd : 1 ≤ d)
  (w : ((¬ (0 < aI h 266 0) → Q (some (.int (J (-1)))) h) ∧ ((0 < aI h 266 0) → (-2147483648 ≤ x1 ∧ x1 < 2147483648) ∧ ((¬ (1 ≤ x1 ∧ x1 ≤ 10) → Q (some (.int (J (-1)))) h) ∧ ((1 ≤ x1 ∧ x1 ≤ 10) → (-2147483648 ≤ x2 ∧ x2 < 2147483648) ∧ ((¬ (1 ≤ x2 ∧ x2 ≤ 60) → Q (some (.int (J (-1)))) h) ∧ ((1 ≤ x2 ∧ x2 ≤ 60) → (-2147483648 ≤ x3 ∧ x3 < 2147483648) ∧ (((0 ≤ x3 ∧ x3 ≤ 1) → (∀ h25, SH (wL h 256 39 (i2l (fI h 256 22))) h25 → (Fr (fun c _ => c = 271) (wL h 256 39 (i2l (fI h 256 22))) h25 ∧ aI h25 271 = mix 34 (aI (wL h 256 39 (i2l (fI h 256 22))) 266) (aI (wL h 256 39 (i2l (fI h 256 22))) 271)) → Ex X PG (d + 1) 283 62 [some (.ref 256), some (.int (J x1)), some (.int (J x2)), some (.int (J x3)), some (.int (J 0)), some (.int (J 0)), none, none] [] h25 Q)) ∧ (¬ (0 ≤ x3 ∧ x3 ≤ 1) → Q (some (.int (J (-1)))) h))))))))) :
    Ex X PG (d + 1) 283 0 [some (.ref 256), some (.int (J x1)), some (.int (J x2)), some (.int (J x3)), none, none, none, none] [] h Q := by
  refine wpx_ok (cut := [62, 80]) 32 d 283 0 _ _ _ _ ?_
  show hs h 256 = (0, 11) ∧ Ex X PG d 231 0 [some (.ref 256)] [] h (fun v1 h2 => ∃ r3, v1 = some (.int r3) ∧ ((r3 = (J 0) → Q (some (.int (J (-1)))) h2) ∧ (¬ (r3 = (J 0)) → Ex X PG d 186 0 [some (.long (Int32.toInt64 (J x1))), none, some (.long (1 : Int64)), none, some (.long (10 : Int64)), none] [] h2 (fun v6 h7 => ∃ r8, v6 = some (.int r8) ∧ ((r8 = (J 0) → Q (some (.int (J (-1)))) h7) ∧ (¬ (r8 = (J 0)) → Ex X PG d 186 0 [some (.long (Int32.toInt64 (J x2))), none, some (.long (1 : Int64)), none, some (.long (60 : Int64)), none] [] h7 (fun v12 h13 => ∃ r14, v12 = some (.int r14) ∧ ((r14 = (J 0) → Q (some (.int (J (-1)))) h13) ∧ (¬ (r14 = (J 0)) → Ex X PG d 186 0 [some (.long (Int32.toInt64 (J x3))), none, some (.long (0 : Int64)), none, some (.long (1 : Int64)), none] [] h13 (fun v18 h19 => ∃ r20, v18 = some (.int r20) ∧ ((¬ r20 = (J 0) → hs h19 256 = (0, 11) ∧ hs h19 256 = (0, 11) ∧ hs (wL h19 256 39 (Int32.toInt64 (hF h19 256 22))) 256 = (0, 11) ∧ Ex X PG d 251 0 [some (.ref 256), none] [] (wL h19 256 39 (Int32.toInt64 (hF h19 256 22))) (fun v24 h25 => v24 = none ∧ Ex X PG (d + 1) 283 62 [some (.ref 256), some (.int (J x1)), some (.int (J x2)), some (.int (J x3)), some (.int (J 0)), some (.int (J 0)), none, none] [] h25 Q)) ∧ (¬ (¬ r20 = (J 0)) → Q (some (.int (J (-1)))) h19))))))))))))
  try simp only [aI_wAL, fI_wAL, aL_wA, aL_wF, aI_wA_ne, aI_wF_ne, fI_wA_ne, fI_wF_ne, fI_wF_nk, aL_wAL_ne, J_sameA, J_sameF, aL_same, Nat.add_left_cancel_iff, Nat.add_eq_left, Nat.left_eq_add, not_false_eq_true, Nat.reduceEqDiff, Nat.reduceAdd, J_add, J_sub, J_mul, J_neg, J_and, J_or, J_xor, J_shl, J_shr, J_div, J_i2b, J_i2l, J_l2i, J_lcm, J_max, J_min, J_nab, J_nao, rdA, rdF, rdL, wA_fold, wF_fold, wL_fold, wC_fold]
  refine ⟨(ls256 C_h), ?_⟩
  refine m231 (h := h)  C_h (by omega)  ?_
  refine ⟨_, rfl, ?_⟩
  try simp only [aI_wAL, fI_wAL, aL_wA, aL_wF, aI_wA_ne, aI_wF_ne, fI_wA_ne, fI_wF_ne, fI_wF_nk, aL_wAL_ne, J_sameA, J_sameF, aL_same, Nat.add_left_cancel_iff, Nat.add_eq_left, Nat.left_eq_add, not_false_eq_true, Nat.reduceEqDiff, Nat.reduceAdd, J_add, J_sub, J_mul, J_neg, J_and, J_or, J_xor, J_shl, J_shr, J_div, J_i2b, J_i2l, J_l2i, J_lcm, J_max, J_min, J_nab, J_nao, rdA, rdF, rdL, wA_fold, wF_fold, wL_fold, wC_fold]
  refine ⟨fun c4 => ?_, fun c4 => ?_⟩
  · have t5 : ¬ (0 < aI h 266 0) := ((bI0 _).mp c4)
    replace w := w.1 t5
    exact w
  · have t5 : (0 < aI h 266 0) := (Classical.byContradiction fun n => c4 ((bI0 _).mpr n))
    replace w := w.2 t5
    obtain ⟨k9, w⟩ := w
    refine m186 (h := h) (v := x1) (lo := 1) (hi := 10) C_h (by omega) k9 (by decide) (by decide) ?_
    refine ⟨_, rfl, ?_⟩
    try simp only [aI_wAL, fI_wAL, aL_wA, aL_wF, aI_wA_ne, aI_wF_ne, fI_wA_ne, fI_wF_ne, fI_wF_nk, aL_wAL_ne, J_sameA, J_sameF, aL_same, Nat.add_left_cancel_iff, Nat.add_eq_left, Nat.left_eq_add, not_false_eq_true, Nat.reduceEqDiff, Nat.reduceAdd, J_add, J_sub, J_mul, J_neg, J_and, J_or, J_xor, J_shl, J_shr, J_div, J_i2b, J_i2l, J_l2i, J_lcm, J_max, J_min, J_nab, J_nao, rdA, rdF, rdL, wA_fold, wF_fold, wL_fold, wC_fold]
    refine ⟨fun c10 => ?_, fun c10 => ?_⟩
    · have t11 : ¬ (1 ≤ x1 ∧ x1 ≤ 10) := ((bI0 _).mp c10)
      replace w := w.1 t11
      exact w
    · have t11 : (1 ≤ x1 ∧ x1 ≤ 10) := (Classical.byContradiction fun n => c10 ((bI0 _).mpr n))
      replace w := w.2 t11
      obtain ⟨k15, w⟩ := w
      refine m186 (h := h) (v := x2) (lo := 1) (hi := 60) C_h (by omega) k15 (by decide) (by decide) ?_
      refine ⟨_, rfl, ?_⟩
      try simp only [aI_wAL, fI_wAL, aL_wA, aL_wF, aI_wA_ne, aI_wF_ne, fI_wA_ne, fI_wF_ne, fI_wF_nk, aL_wAL_ne, J_sameA, J_sameF, aL_same, Nat.add_left_cancel_iff, Nat.add_eq_left, Nat.left_eq_add, not_false_eq_true, Nat.reduceEqDiff, Nat.reduceAdd, J_add, J_sub, J_mul, J_neg, J_and, J_or, J_xor, J_shl, J_shr, J_div, J_i2b, J_i2l, J_l2i, J_lcm, J_max, J_min, J_nab, J_nao, rdA, rdF, rdL, wA_fold, wF_fold, wL_fold, wC_fold]
      refine ⟨fun c16 => ?_, fun c16 => ?_⟩
      · have t17 : ¬ (1 ≤ x2 ∧ x2 ≤ 60) := ((bI0 _).mp c16)
        replace w := w.1 t17
        exact w
      · have t17 : (1 ≤ x2 ∧ x2 ≤ 60) := (Classical.byContradiction fun n => c16 ((bI0 _).mpr n))
        replace w := w.2 t17
        obtain ⟨k21, w⟩ := w
        refine m186 (h := h) (v := x3) (lo := 0) (hi := 1) C_h (by omega) k21 (by decide) (by decide) ?_
        refine ⟨_, rfl, ?_⟩
        try simp only [aI_wAL, fI_wAL, aL_wA, aL_wF, aI_wA_ne, aI_wF_ne, fI_wA_ne, fI_wF_ne, fI_wF_nk, aL_wAL_ne, J_sameA, J_sameF, aL_same, Nat.add_left_cancel_iff, Nat.add_eq_left, Nat.left_eq_add, not_false_eq_true, Nat.reduceEqDiff, Nat.reduceAdd, J_add, J_sub, J_mul, J_neg, J_and, J_or, J_xor, J_shl, J_shr, J_div, J_i2b, J_i2l, J_l2i, J_lcm, J_max, J_min, J_nab, J_nao, rdA, rdF, rdL, wA_fold, wF_fold, wL_fold, wC_fold]
        refine ⟨fun c22 => ?_, fun c22 => ?_⟩
        · have t23 : (0 ≤ x3 ∧ x3 ≤ 1) := (Classical.byContradiction fun n => c22 ((bI0 _).mpr n))
          replace w := w.1 t23
          refine ⟨(ls256 C_h), ?_⟩
          refine ⟨(ls256 C_h), ?_⟩
          refine ⟨(ls256 C_h), ?_⟩
          refine m251 (h := wL h 256 39 (i2l (fI h 256 22)))  C_h (by omega)  ?_
          intro h25 s26 p27
          replace w := w h25 s26 p27
          refine ⟨rfl, ?_⟩
          have C_h25 := Lay_SH s26 C_h
          try simp only [aI_wAL, fI_wAL, aL_wA, aL_wF, aI_wA_ne, aI_wF_ne, fI_wA_ne, fI_wF_ne, fI_wF_nk, aL_wAL_ne, J_sameA, J_sameF, aL_same, Nat.add_left_cancel_iff, Nat.add_eq_left, Nat.left_eq_add, not_false_eq_true, Nat.reduceEqDiff, Nat.reduceAdd, J_add, J_sub, J_mul, J_neg, J_and, J_or, J_xor, J_shl, J_shr, J_div, J_i2b, J_i2l, J_l2i, J_lcm, J_max, J_min, J_nab, J_nao, rdA, rdF, rdL, wA_fold, wF_fold, wL_fold, wC_fold]
          exact w
        · have t23 : ¬ (0 ≤ x3 ∧ x3 ≤ 1) := ((bI0 _).mp (Classical.byContradiction fun n => c22 n))
          replace w := w.2 t23
          exact w
-- OutwardDoorsModel.days(III)I at 62
set_option maxRecDepth 20000 in
set_option maxHeartbeats 4000000 in
theorem r283_62 {X : Cst} {d : Nat} {x1 : Int} {x2 : Int} {x3 : Int} {x4 : Int} {x5 : Int} {l6 : Option Value} {l7 : Option Value} {h : AH} {Q : Post} (C_h : Lay h) (hd : 2 ≤ d)
  (w : (-2147483648 ≤ x5 ∧ x5 < 2147483648) ∧ (-2147483648 ≤ x1 ∧ x1 < 2147483648) ∧ ((x1 ≤ x5 → Q (some (.int (J x4))) h) ∧ (¬ x1 ≤ x5 → (WF 999 (aI h 266)) ∧ (0 ≤ (3 + x3) ∧ (3 + x3) < 6) ∧ Ex X PG (d + 1) 283 80 [some (.ref 256), some (.int (J x1)), some (.int (J x2)), some (.int (J x3)), some (.int (J x4)), some (.int (J x5)), some (.int (J (sumN (aI h 266 2).toNat (fun p => pS (aI h 266) p (3 + x3))))), some (.int (J 0))] [] h Q))) :
    Ex X PG (d + 1) 283 62 [some (.ref 256), some (.int (J x1)), some (.int (J x2)), some (.int (J x3)), some (.int (J x4)), some (.int (J x5)), l6, l7] [] h Q := by
  refine wpx_ok (cut := [62, 80]) 11 d 283 62 _ _ _ _ ?_
  show (((J x1) ≤ (J x5) → Q (some (.int (J x4))) h) ∧ (¬ ((J x1) ≤ (J x5)) → hs h 256 = (0, 11) ∧ Ex X PG d 284 0 [some (.ref 256), some (.int ((J 3) + (J x3))), none, none] [] h (fun v5 h6 => ∃ r7, v5 = some (.int r7) ∧ Ex X PG (d + 1) 283 80 [some (.ref 256), some (.int (J x1)), some (.int (J x2)), some (.int (J x3)), some (.int (J x4)), some (.int (J x5)), some (.int r7), some (.int (J 0))] [] h6 Q)))
  try simp only [aI_wAL, fI_wAL, aL_wA, aL_wF, aI_wA_ne, aI_wF_ne, fI_wA_ne, fI_wF_ne, fI_wF_nk, aL_wAL_ne, J_sameA, J_sameF, aL_same, Nat.add_left_cancel_iff, Nat.add_eq_left, Nat.left_eq_add, not_false_eq_true, Nat.reduceEqDiff, Nat.reduceAdd, J_add, J_sub, J_mul, J_neg, J_and, J_or, J_xor, J_shl, J_shr, J_div, J_i2b, J_i2l, J_l2i, J_lcm, J_max, J_min, J_nab, J_nao, rdA, rdF, rdL, wA_fold, wF_fold, wL_fold, wC_fold]
  obtain ⟨k3, w⟩ := w
  obtain ⟨k4, w⟩ := w
  refine ⟨fun c1 => ?_, fun c1 => ?_⟩
  · have t2 : x1 ≤ x5 := ((Jle k4 k3).mp c1)
    replace w := w.1 t2
    exact w
  · have t2 : ¬ x1 ≤ x5 := (fun e => c1 ((Jle k4 k3).mpr e))
    replace w := w.2 t2
    refine ⟨(ls256 C_h), ?_⟩
    obtain ⟨k8, w⟩ := w
    obtain ⟨k9, w⟩ := w
    refine m284 (h := h) (w := (3 + x3)) C_h (by omega) k8 k9 ?_
    refine ⟨_, rfl, ?_⟩
    try simp only [aI_wAL, fI_wAL, aL_wA, aL_wF, aI_wA_ne, aI_wF_ne, fI_wA_ne, fI_wF_ne, fI_wF_nk, aL_wAL_ne, J_sameA, J_sameF, aL_same, Nat.add_left_cancel_iff, Nat.add_eq_left, Nat.left_eq_add, not_false_eq_true, Nat.reduceEqDiff, Nat.reduceAdd, J_add, J_sub, J_mul, J_neg, J_and, J_or, J_xor, J_shl, J_shr, J_div, J_i2b, J_i2l, J_l2i, J_lcm, J_max, J_min, J_nab, J_nao, rdA, rdF, rdL, wA_fold, wF_fold, wL_fold, wC_fold]
    exact w
-- OutwardDoorsModel.days(III)I at 80
set_option maxRecDepth 20000 in
set_option maxHeartbeats 4000000 in
theorem r283_80 {X : Cst} {d : Nat} {x1 : Int} {x2 : Int} {x3 : Int} {x4 : Int} {x5 : Int} {x6 : Int} {x7 : Int} {h : AH} {Q : Post} (C_h : Lay h) (hd : 2 ≤ d)
  (w : (-2147483648 ≤ x7 ∧ x7 < 2147483648) ∧ (-2147483648 ≤ x2 ∧ x2 < 2147483648) ∧ ((x2 ≤ x7 → (WF 999 (aI h 266)) ∧ (0 ≤ (3 + x3) ∧ (3 + x3) < 6) ∧ (∀ h11, SH h h11 → (Fr (fun c j => c = 266 ∧ j < 34) h h11 ∧ aI h11 266 = mix 34 (aI h 271) (aI h 266)) → Ex X PG (d + 1) 283 62 [some (.ref 256), some (.int (J x1)), some (.int (J x2)), some (.int (J x3)), some (.int (J (x4 + ((sumN (aI h 266 2).toNat (fun p => pS (aI h 266) p (3 + x3))) - x6)))), some (.int (J (x5 + 1))), some (.int (J x6)), some (.int (J x7))] [] h11 Q)) ∧ (¬ x2 ≤ x7 → Ex X PG d 285 0 [some (.ref 256), none] [] h (fun v14 h15 => v14 = none ∧ SH h h15 ∧ Ex X PG d 233 0 [some (.ref 256), none, none, none] [] h15 (fun v16 h17 => ∃ r18 : Int, (-2147483648 ≤ r18 ∧ r18 < 2147483648) ∧ v16 = some (.int (J r18)) ∧ SH h15 h17 ∧ Ex X PG (d + 1) 283 80 [some (.ref 256), some (.int (J x1)), some (.int (J x2)), some (.int (J x3)), some (.int (J x4)), some (.int (J x5)), some (.int (J x6)), some (.int (J (x7 + 1)))] [] h17 Q))))) :
    Ex X PG (d + 1) 283 80 [some (.ref 256), some (.int (J x1)), some (.int (J x2)), some (.int (J x3)), some (.int (J x4)), some (.int (J x5)), some (.int (J x6)), some (.int (J x7))] [] h Q := by
  refine wpx_ok (cut := [62, 80]) 17 d 283 80 _ _ _ _ ?_
  show (((J x2) ≤ (J x7) → hs h 256 = (0, 11) ∧ Ex X PG d 284 0 [some (.ref 256), some (.int ((J 3) + (J x3))), none, none] [] h (fun v5 h6 => ∃ r7, v5 = some (.int r7) ∧ hs h6 256 = (0, 11) ∧ Ex X PG d 252 0 [some (.ref 256), none] [] h6 (fun v10 h11 => v10 = none ∧ Ex X PG (d + 1) 283 62 [some (.ref 256), some (.int (J x1)), some (.int (J x2)), some (.int (J x3)), some (.int ((J x4) + (r7 - (J x6)))), some (.int ((J x5) + (J 1))), some (.int (J x6)), some (.int (J x7))] [] h11 Q))) ∧ (¬ ((J x2) ≤ (J x7)) → hs h 256 = (0, 11) ∧ Ex X PG d 285 0 [some (.ref 256), none] [] h (fun v14 h15 => v14 = none ∧ hs h15 256 = (0, 11) ∧ Ex X PG d 233 0 [some (.ref 256), none, none, none] [] h15 (fun v16 h17 => ∃ r18, v16 = some (.int r18) ∧ Ex X PG (d + 1) 283 80 [some (.ref 256), some (.int (J x1)), some (.int (J x2)), some (.int (J x3)), some (.int (J x4)), some (.int (J x5)), some (.int (J x6)), some (.int ((J x7) + (J 1)))] [] h17 Q))))
  try simp only [aI_wAL, fI_wAL, aL_wA, aL_wF, aI_wA_ne, aI_wF_ne, fI_wA_ne, fI_wF_ne, fI_wF_nk, aL_wAL_ne, J_sameA, J_sameF, aL_same, Nat.add_left_cancel_iff, Nat.add_eq_left, Nat.left_eq_add, not_false_eq_true, Nat.reduceEqDiff, Nat.reduceAdd, J_add, J_sub, J_mul, J_neg, J_and, J_or, J_xor, J_shl, J_shr, J_div, J_i2b, J_i2l, J_l2i, J_lcm, J_max, J_min, J_nab, J_nao, rdA, rdF, rdL, wA_fold, wF_fold, wL_fold, wC_fold]
  obtain ⟨k3, w⟩ := w
  obtain ⟨k4, w⟩ := w
  refine ⟨fun c1 => ?_, fun c1 => ?_⟩
  · have t2 : x2 ≤ x7 := ((Jle k4 k3).mp c1)
    replace w := w.1 t2
    refine ⟨(ls256 C_h), ?_⟩
    obtain ⟨k8, w⟩ := w
    obtain ⟨k9, w⟩ := w
    refine m284 (h := h) (w := (3 + x3)) C_h (by omega) k8 k9 ?_
    refine ⟨_, rfl, ?_⟩
    try simp only [aI_wAL, fI_wAL, aL_wA, aL_wF, aI_wA_ne, aI_wF_ne, fI_wA_ne, fI_wF_ne, fI_wF_nk, aL_wAL_ne, J_sameA, J_sameF, aL_same, Nat.add_left_cancel_iff, Nat.add_eq_left, Nat.left_eq_add, not_false_eq_true, Nat.reduceEqDiff, Nat.reduceAdd, J_add, J_sub, J_mul, J_neg, J_and, J_or, J_xor, J_shl, J_shr, J_div, J_i2b, J_i2l, J_l2i, J_lcm, J_max, J_min, J_nab, J_nao, rdA, rdF, rdL, wA_fold, wF_fold, wL_fold, wC_fold]
    refine ⟨(ls256 C_h), ?_⟩
    refine m252 (h := h)  C_h (by omega)  ?_
    intro h11 s12 p13
    replace w := w h11 s12 p13
    refine ⟨rfl, ?_⟩
    have C_h11 := Lay_SH s12 C_h
    try simp only [aI_wAL, fI_wAL, aL_wA, aL_wF, aI_wA_ne, aI_wF_ne, fI_wA_ne, fI_wF_ne, fI_wF_nk, aL_wAL_ne, J_sameA, J_sameF, aL_same, Nat.add_left_cancel_iff, Nat.add_eq_left, Nat.left_eq_add, not_false_eq_true, Nat.reduceEqDiff, Nat.reduceAdd, J_add, J_sub, J_mul, J_neg, J_and, J_or, J_xor, J_shl, J_shr, J_div, J_i2b, J_i2l, J_l2i, J_lcm, J_max, J_min, J_nab, J_nao, rdA, rdF, rdL, wA_fold, wF_fold, wL_fold, wC_fold]
    exact w
  · have t2 : ¬ x2 ≤ x7 := (fun e => c1 ((Jle k4 k3).mpr e))
    replace w := w.2 t2
    refine ⟨(ls256 C_h), ?_⟩
    refine Ex.mono w (Nat.le_refl _) ?_
    rintro v14 h15 ⟨rfl, s20, w⟩
    refine ⟨rfl, ?_⟩
    have C_h15 := Lay_SH s20 C_h
    try simp only [aI_wAL, fI_wAL, aL_wA, aL_wF, aI_wA_ne, aI_wF_ne, fI_wA_ne, fI_wF_ne, fI_wF_nk, aL_wAL_ne, J_sameA, J_sameF, aL_same, Nat.add_left_cancel_iff, Nat.add_eq_left, Nat.left_eq_add, not_false_eq_true, Nat.reduceEqDiff, Nat.reduceAdd, J_add, J_sub, J_mul, J_neg, J_and, J_or, J_xor, J_shl, J_shr, J_div, J_i2b, J_i2l, J_l2i, J_lcm, J_max, J_min, J_nab, J_nao, rdA, rdF, rdL, wA_fold, wF_fold, wL_fold, wC_fold]
    refine ⟨(ls256 C_h15), ?_⟩
    refine Ex.mono w (Nat.le_refl _) ?_
    rintro v16 h17 ⟨r18, gr18, rfl, s19, w⟩
    refine ⟨_, rfl, ?_⟩
    have C_h17 := Lay_SH s19 C_h15
    try simp only [aI_wAL, fI_wAL, aL_wA, aL_wF, aI_wA_ne, aI_wF_ne, fI_wA_ne, fI_wF_ne, fI_wF_nk, aL_wAL_ne, J_sameA, J_sameF, aL_same, Nat.add_left_cancel_iff, Nat.add_eq_left, Nat.left_eq_add, not_false_eq_true, Nat.reduceEqDiff, Nat.reduceAdd, J_add, J_sub, J_mul, J_neg, J_and, J_or, J_xor, J_shl, J_shr, J_div, J_i2b, J_i2l, J_l2i, J_lcm, J_max, J_min, J_nab, J_nao, rdA, rdF, rdL, wA_fold, wF_fold, wL_fold, wC_fold]
    exact w
theorem m283 {X : Cst} {d : Nat} {f x m n w N : Int} {Rs : Int → Ru} {h : AH} {Q : Post} (C : Lay h) (hd : 11 ≤ d) (W : WF N (aI h 266)) (hN : N ≤ 800) (ef : fI h 256 21 = f) (ex : fI h 256 22 = x) (hx : 0 ≤ x ∧ x < 2147483648) (RO : RefOK h f Rs) (g1 : -2147483648 ≤ m ∧ m < 2147483648) (g2 : -2147483648 ≤ n ∧ n < 2147483648) (g3 : -2147483648 ≤ w ∧ w < 2147483648)
    (k : ∀ h', Fr TRs h h' → aI h' 266 = aI h 266 → Q (some (.int (J (anDays f Rs (aI h 266) x m n w)))) h') : Ex X PG d 283 0 [some (.ref 256), some (.int (J m)), some (.int (J n)), some (.int (J w)), none, none, none, none] [] h Q := by
  obtain ⟨d, rfl⟩ : ∃ e, d = e + 1 := ⟨d - 1, by omega⟩
  have b := W.1
  unfold WFb at b
  unfold anDays at k
  refine r283_0 C (by omega) ⟨fun c => ?_, fun c => ⟨g1, fun c2 => ?_, fun c2 => ⟨g2, fun c3 => ?_, fun c3 => ⟨g3, fun c4 => ?_, fun c4 => ?_⟩⟩⟩⟩
  · rw [if_neg (fun z => c z.1)] at k; exact k h Fr.rf rfl
  · rw [if_neg (fun z => c2 z.2.1)] at k; exact k h Fr.rf rfl
  · rw [if_neg (fun z => c3 z.2.2.1)] at k; exact k h Fr.rf rfl
  · rw [if_pos ⟨c, c2, c3, c4⟩] at k
    rw [ex]
    intro h25 s25 p25
    rw [aI_wL, aI_wL] at p25
    have F25 : Fr TRs h h25 := (Fr.rf.wL (Or.inl (by unfold TR; omega))).tr (p25.1.mo fun c k z => Or.inl (by unfold TR; omega))
    have fl : ∀ c k, TP c k → TRs c k := fun c k z => by unfold TP at z; unfold TRs TR; omega
    have keep : ∀ c k, TRs c k → ¬ c = 258 ∧ ¬ c = 260 ∧ ¬ c = 261 := fun c k z => by unfold TRs TR at z; omega
    -- the outer loop
    have lo : ∀ (mm : Nat) (y a xx : Int) (h' : AH) (l6 l7 : Option Value), m - y = mm → 0 ≤ y → Fr TRs h h' → aI h' 266 = aI h 266 → aI h' 271 = mix 34 (aI h 266) (aI h 271) → 0 ≤ xx ∧ xx < 2147483648 → hL h' 256 39 = i2l xx → a + dym f Rs w (aI h 266) n.toNat mm xx = dym f Rs w (aI h 266) n.toNat m.toNat x → Ex X PG (d + 1) 283 62 [some (.ref 256), some (.int (J m)), some (.int (J n)), some (.int (J w)), some (.int (J a)), some (.int (J y)), l6, l7] [] h' Q := by
      intro mm
      induction mm with
      | zero =>
        intro y a xx h' l6 l7 h1 h2 F e6 e7 hxx ehx ea
        refine r283_62 (F.C C) (by omega) ⟨by omega, by omega, fun _ => ?_, fun z => absurd (by omega) z⟩
        have := k h' F e6
        rw [← ea] at this
        rw [show a + dym f Rs w (aI h 266) n.toNat 0 xx = a from Int.add_zero a] at this
        exact this
      | succ mm ih =>
        intro y a xx h' l6 l7 h1 h2 F e6 e7 hxx ehx ea
        refine r283_62 (F.C C) (by omega) ?_
        rw [e6]
        refine ⟨by omega, by omega, fun z => absurd z (by omega), fun _ => ⟨W.up (by omega), by omega, ?_⟩⟩
        -- the inner loop
        have li : ∀ (nn : Nat) (i xi M : Int) (h'' : AH), n - i = nn → 0 ≤ i → Fr TRs h h'' → WF M (aI h'' 266) → M = N + i → aI h'' 266 2 = aI h 266 2 → (∀ k, 34 ≤ k → k < 2147483648 → aI h'' 266 k = aI h 266 k) → aI h'' 271 = mix 34 (aI h 266) (aI h 271) → 0 ≤ xi ∧ xi < 2147483648 → hL h'' 256 39 = i2l xi → dyx (aI h 266) nn xi = dyx (aI h 266) n.toNat xx →
            sumN (aI h 266 2).toNat (fun p => pS (aI h'' 266) p (3 + w)) + dyc f Rs w nn (aI h'' 266) xi = sumN (aI h 266 2).toNat (fun p => pS (aI h 266) p (3 + w)) + dyc f Rs w n.toNat (aI h 266) xx →
            Ex X PG (d + 1) 283 80 [some (.ref 256), some (.int (J m)), some (.int (J n)), some (.int (J w)), some (.int (J a)), some (.int (J y)), some (.int (J (sumN (aI h 266 2).toNat (fun p => pS (aI h 266) p (3 + w))))), some (.int (J i))] [] h'' Q := by
          intro nn
          induction nn with
          | zero =>
            intro i xi M h'' i1 i2 F2 W2 hM e2 ek e71 hxi ehi edx edc
            refine r283_80 (F2.C C) (by omega) ⟨by omega, by omega, fun _ => ⟨W2.up (by omega), by omega, fun h11 s11 p11 => ?_⟩, fun z => absurd (by omega) z⟩
            rw [e2]
            have F11 : Fr TRs h h11 := F2.tr (p11.1.mo fun c k z => Or.inr z.1)
            have e11 : aI h11 266 = aI h 266 := by
              rw [p11.2, e71]
              exact back34 (Tn_aI h 266) (Tn_aI h'' 266) ek
            refine ih (y + 1) _ xi h11 _ _ (by omega) (by omega) F11 e11 (by rw [p11.1.a 271 (fun k z => by omega)]; exact e71) hxi ?_ ?_
            · rw [(p11.1.2 256 39 (by decide)).2]; exact ehi
            · have q : dyx (aI h 266) 0 xi = xi := rfl
              rw [q] at edx
              have q2 : dyc f Rs w 0 (aI h'' 266) xi = 0 := rfl
              rw [q2] at edc
              have q3 : dym f Rs w (aI h 266) n.toNat (mm + 1) xx = dyc f Rs w n.toNat (aI h 266) xx + dym f Rs w (aI h 266) n.toNat mm (dyx (aI h 266) n.toNat xx) := rfl
              rw [q3, ← edx] at ea
              omega
          | succ nn ih2 =>
            intro i xi M h'' i1 i2 F2 W2 hM e2 ek e71 hxi ehi edx edc
            refine r283_80 (F2.C C) (by omega) ⟨by omega, by omega, fun z => absurd z (by omega), fun _ => ?_⟩
            refine m285 (x := xi) (F2.C C) (by omega) (W2.up (by omega)) hxi ehi (fun h15 F15 l15 e15 => ⟨rfl, F15.1, ?_⟩)
            have WA := aimD_WF W2 xi
            have F3 : Fr TRs h h15 := F2.tr (F15.mo fun c k z => by unfold TRs TR; omega)
            refine m233f (f := f) (Rs := Rs) (F3.C C) (by omega) (by rw [e15]; exact WA.up (by omega)) (by rw [F3.f 256 21 (fun z => by unfold TRs TR at z; omega)]; exact ef) (RO.fr F3 keep) (fun h17 F17 e17 => ?_)
            refine ⟨_, momN_rg (by rw [e15]; exact WA), rfl, F17.1, ?_⟩
            rw [e15] at e17
            have a2 : aimD (aI h'' 266) xi 2 = aI h'' 266 2 := aimD_k W2 (by decide) (Or.inl (by decide))
            have m2 : mo1 f Rs (aimD (aI h'' 266) xi) 2 = aimD (aI h'' 266) xi 2 := mo1_k WA (Or.inl (by decide))
            refine ih2 (i + 1) (xD (aI h'' 266) xi) (M + 1) h17 (by omega) (by omega) (F3.tr (F17.mo fl)) (by rw [e17]; exact mo1_WF WA) (by omega) ?_ (fun j j0 j1 => ?_) ?_ (xD_b hxi) ?_ ?_ ?_
            · rw [e17, m2, a2]; exact e2
            · rw [e17, mo1_k WA (Or.inr ⟨j0, j1⟩), aimD_k W2 (by omega) (by omega)]; exact ek j j0 j1
            · rw [F17.a 271 (fun k z => by unfold TP at z; omega), F15.a 271 (fun k z => by omega)]; exact e71
            · rw [(F17.2 256 39 (fun z => by unfold TP at z; omega)).2]; exact l15
            · have xe : xD (aI h'' 266) xi = xD (aI h 266) xi := by unfold xD; rw [e2]
              rw [xe]; exact edx
            · rw [← edc, e17]
              have s1 := cN_sum (f := f) (Rs := Rs) WA c4
              rw [a2, e2] at s1
              have s2 := aimD_sum (x := xi) W2 c4
              rw [e2] at s2
              have q : dyc f Rs w (nn + 1) (aI h'' 266) xi = cN f Rs w (aimD (aI h'' 266) xi) + dyc f Rs w nn (mo1 f Rs (aimD (aI h'' 266) xi)) (xD (aI h'' 266) xi) := rfl
              rw [q, s1, s2]
              omega
        have := li n.toNat 0 xx N h' (by omega) (by omega) F (by rw [e6]; exact W) (by omega) (by rw [e6]) (fun j j0 j1 => by rw [e6]) e7 hxx ehx rfl (by rw [e6])
        exact this
    refine lo m.toNat 0 0 x h25 none none (by omega) (by omega) F25 ?_ p25.2 hx ?_ (Int.zero_add _)
    · rw [p25.1.a 266 (fun k => by decide), aI_wL]
    · rw [(p25.1.2 256 39 (by decide)).2, hL_wL]
  · rw [if_neg (fun z => c4 z.2.2.2)] at k; exact k h Fr.rf rfl
