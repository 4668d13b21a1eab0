/-! THE CLASS: what a rule reckons. -/
def cm (o : Int) : Int := if o = 14 then 7 else if o = 11 then 15 else if o = 12 then 13 else if o = 13 then 14 else if o ≤ 5 then o + 1 else o + 2
theorem cm_1 {o : Int} (h : 0 ≤ o ∧ o < 16) : cm o = 1 ↔ o = 0 := by unfold cm; (repeat' split) <;> omega
theorem cm_2 {o : Int} (h : 0 ≤ o ∧ o < 16) : cm o = 2 ↔ o = 1 := by unfold cm; (repeat' split) <;> omega
theorem cm_15 {o : Int} (h : 0 ≤ o ∧ o < 16) : cm o = 15 ↔ o = 11 := by unfold cm; (repeat' split) <;> omega
-- OutwardDoors$Rule.joined(IJJ)J at 0
set_option maxRecDepth 20000 in
set_option maxHeartbeats 4000000 in
theorem r95_0 {X : Cst} {d : Nat} {x0 : Int} {x1 : Int64} {x3 : Int64} {h : AH} {Q : Post} (C_h : Lay h)
  (w : (-2147483648 ≤ x0 ∧ x0 < 2147483648) ∧ ((x0 = 3 → Q (some (.long (x1 + x3))) h) ∧ (¬ x0 = 3 → ((x0 = 4 → Q (some (.long (x1 - x3))) h) ∧ (¬ x0 = 4 → ((x0 = 5 → Q (some (.long (x1 * x3))) h) ∧ (¬ x0 = 5 → ((x0 = 6 → ((¬ lcm x3 (0 : Int64) = 0 → ¬ x3 = 0 ∧ Q (some (.long (x1 / x3))) h) ∧ (lcm x3 (0 : Int64) = 0 → Q (some (.long (0 : Int64))) h))) ∧ (¬ x0 = 6 → ((x0 = 7 → ((¬ lcm x3 (0 : Int64) = 0 → ¬ x3 = 0 ∧ Q (some (.long (x1 - x1 / x3 * x3))) h) ∧ (lcm x3 (0 : Int64) = 0 → Q (some (.long (0 : Int64))) h))) ∧ (¬ x0 = 7 → ((x0 = 8 → ((0 ≤ lcm x1 x3 → Q (some (.long (0 : Int64))) h) ∧ (¬ 0 ≤ lcm x1 x3 → Q (some (.long (1 : Int64))) h))) ∧ (¬ x0 = 8 → ((x0 = 9 → ((0 < lcm x1 x3 → Q (some (.long (0 : Int64))) h) ∧ (¬ 0 < lcm x1 x3 → Q (some (.long (1 : Int64))) h))) ∧ (¬ x0 = 9 → ((x0 = 10 → ((¬ lcm x1 x3 = 0 → Q (some (.long (0 : Int64))) h) ∧ (lcm x1 x3 = 0 → Q (some (.long (1 : Int64))) h))) ∧ (¬ x0 = 10 → ((x0 = 11 → ((lcm x1 x3 < 0 → Q (some (.long (0 : Int64))) h) ∧ (¬ lcm x1 x3 < 0 → Q (some (.long (1 : Int64))) h))) ∧ (¬ x0 = 11 → ((x0 = 12 → ((lcm x1 x3 ≤ 0 → Q (some (.long (0 : Int64))) h) ∧ (¬ lcm x1 x3 ≤ 0 → Q (some (.long (1 : Int64))) h))) ∧ (¬ x0 = 12 → ((x0 = 13 → Q (some (.long (x1 &&& x3))) h) ∧ (¬ x0 = 13 → ((x0 = 14 → Q (some (.long (x1 ||| x3))) h) ∧ (¬ x0 = 14 → Q (some (.long (0 : Int64))) h))))))))))))))))))))))))) :
    Ex X PG (d + 1) 95 0 [some (.int (J x0)), some (.long x1), none, some (.long x3), none] [] h Q := by
  refine wpx_ok (cut := []) 10 d 95 0 _ _ _ _ ?_
  show (((J x0) = J 3 → Q (some (.long (x1 + x3))) h) ∧ (¬ (J x0) = J 3 → (((J x0) = J 4 → Q (some (.long (x1 - x3))) h) ∧ (¬ (J x0) = J 4 → (((J x0) = J 5 → Q (some (.long (x1 * x3))) h) ∧ (¬ (J x0) = J 5 → (((J x0) = J 6 → ((¬ (lg_cmp x3 (0 : Int64)) = (J 0) → ¬ x3 = 0 ∧ Q (some (.long (x1 / x3))) h) ∧ (¬ (¬ (lg_cmp x3 (0 : Int64)) = (J 0)) → Q (some (.long (0 : Int64))) h))) ∧ (¬ (J x0) = J 6 → (((J x0) = J 7 → ((¬ (lg_cmp x3 (0 : Int64)) = (J 0) → ¬ x3 = 0 ∧ Q (some (.long (x1 - x1 / x3 * x3))) h) ∧ (¬ (¬ (lg_cmp x3 (0 : Int64)) = (J 0)) → Q (some (.long (0 : Int64))) h))) ∧ (¬ (J x0) = J 7 → (((J x0) = J 8 → (((J 0) ≤ (lg_cmp x1 x3) → Q (some (.long (0 : Int64))) h) ∧ (¬ ((J 0) ≤ (lg_cmp x1 x3)) → Q (some (.long (1 : Int64))) h))) ∧ (¬ (J x0) = J 8 → (((J x0) = J 9 → (((J 0) < (lg_cmp x1 x3) → Q (some (.long (0 : Int64))) h) ∧ (¬ ((J 0) < (lg_cmp x1 x3)) → Q (some (.long (1 : Int64))) h))) ∧ (¬ (J x0) = J 9 → (((J x0) = J 10 → ((¬ (lg_cmp x1 x3) = (J 0) → Q (some (.long (0 : Int64))) h) ∧ (¬ (¬ (lg_cmp x1 x3) = (J 0)) → Q (some (.long (1 : Int64))) h))) ∧ (¬ (J x0) = J 10 → (((J x0) = J 11 → (((lg_cmp x1 x3) < (J 0) → Q (some (.long (0 : Int64))) h) ∧ (¬ ((lg_cmp x1 x3) < (J 0)) → Q (some (.long (1 : Int64))) h))) ∧ (¬ (J x0) = J 11 → (((J x0) = J 12 → (((lg_cmp x1 x3) ≤ (J 0) → Q (some (.long (0 : Int64))) h) ∧ (¬ ((lg_cmp x1 x3) ≤ (J 0)) → Q (some (.long (1 : Int64))) h))) ∧ (¬ (J x0) = J 12 → (((J x0) = J 13 → Q (some (.long (x1 &&& x3))) h) ∧ (¬ (J x0) = J 13 → (((J x0) = J 14 → Q (some (.long (x1 ||| x3))) h) ∧ (¬ (J x0) = J 14 → Q (some (.long (0 : Int64))) h))))))))))))))))))))))))
  try simp only [aI_wAL, fI_wAL, aL_wA, aL_wF, aI_wA_ne, aI_wF_ne, fI_wA_ne, fI_wF_ne, fI_wF_nk, aL_wAL_ne, J_sameA, J_sameF, aL_same, Nat.add_left_cancel_iff, Nat.add_eq_left, Nat.left_eq_add, not_false_eq_true, Nat.reduceEqDiff, Nat.reduceAdd, J_add, J_sub, J_mul, J_neg, J_and, J_or, J_xor, J_shl, J_shr, J_div, J_i2b, J_i2l, J_l2i, J_lcm, J_max, J_min, J_nab, J_nao, rdA, rdF, rdL, wA_fold, wF_fold, wL_fold, wC_fold]
  obtain ⟨k1, w⟩ := w
  refine ⟨fun c2 => ?_, fun c2 => ?_⟩
  · replace w := w.1 ((Jeq k1 (by decide)).mp c2)
    exact w
  · replace w := w.2 (fun e => c2 ((Jeq k1 (by decide)).mpr e))
    refine ⟨fun c3 => ?_, fun c3 => ?_⟩
    · replace w := w.1 ((Jeq k1 (by decide)).mp c3)
      exact w
    · replace w := w.2 (fun e => c3 ((Jeq k1 (by decide)).mpr e))
      refine ⟨fun c4 => ?_, fun c4 => ?_⟩
      · replace w := w.1 ((Jeq k1 (by decide)).mp c4)
        exact w
      · replace w := w.2 (fun e => c4 ((Jeq k1 (by decide)).mpr e))
        refine ⟨fun c8 => ?_, fun c8 => ?_⟩
        · replace w := w.1 ((Jeq k1 (by decide)).mp c8)
          refine ⟨fun c5 => ?_, fun c5 => ?_⟩
          · have t6 : ¬ lcm x3 (0 : Int64) = 0 := (fun e => c5 ((Jeq (rg_toInt _) (by decide)).mpr e))
            replace w := w.1 t6
            obtain ⟨k7, w⟩ := w
            refine ⟨k7, ?_⟩
            exact w
          · have t6 : lcm x3 (0 : Int64) = 0 := ((Jeq (rg_toInt _) (by decide)).mp (Classical.byContradiction c5))
            replace w := w.2 t6
            exact w
        · replace w := w.2 (fun e => c8 ((Jeq k1 (by decide)).mpr e))
          refine ⟨fun c12 => ?_, fun c12 => ?_⟩
          · replace w := w.1 ((Jeq k1 (by decide)).mp c12)
            refine ⟨fun c9 => ?_, fun c9 => ?_⟩
            · have t10 : ¬ lcm x3 (0 : Int64) = 0 := (fun e => c9 ((Jeq (rg_toInt _) (by decide)).mpr e))
              replace w := w.1 t10
              obtain ⟨k11, w⟩ := w
              refine ⟨k11, ?_⟩
              exact w
            · have t10 : lcm x3 (0 : Int64) = 0 := ((Jeq (rg_toInt _) (by decide)).mp (Classical.byContradiction c9))
              replace w := w.2 t10
              exact w
          · replace w := w.2 (fun e => c12 ((Jeq k1 (by decide)).mpr e))
            refine ⟨fun c15 => ?_, fun c15 => ?_⟩
            · replace w := w.1 ((Jeq k1 (by decide)).mp c15)
              refine ⟨fun c13 => ?_, fun c13 => ?_⟩
              · have t14 : 0 ≤ lcm x1 x3 := ((Jle (by decide) (rg_toInt _)).mp c13)
                replace w := w.1 t14
                exact w
              · have t14 : ¬ 0 ≤ lcm x1 x3 := (fun e => c13 ((Jle (by decide) (rg_toInt _)).mpr e))
                replace w := w.2 t14
                exact w
            · replace w := w.2 (fun e => c15 ((Jeq k1 (by decide)).mpr e))
              refine ⟨fun c18 => ?_, fun c18 => ?_⟩
              · replace w := w.1 ((Jeq k1 (by decide)).mp c18)
                refine ⟨fun c16 => ?_, fun c16 => ?_⟩
                · have t17 : 0 < lcm x1 x3 := ((Jlt (by decide) (rg_toInt _)).mp c16)
                  replace w := w.1 t17
                  exact w
                · have t17 : ¬ 0 < lcm x1 x3 := (fun e => c16 ((Jlt (by decide) (rg_toInt _)).mpr e))
                  replace w := w.2 t17
                  exact w
              · replace w := w.2 (fun e => c18 ((Jeq k1 (by decide)).mpr e))
                refine ⟨fun c21 => ?_, fun c21 => ?_⟩
                · replace w := w.1 ((Jeq k1 (by decide)).mp c21)
                  refine ⟨fun c19 => ?_, fun c19 => ?_⟩
                  · have t20 : ¬ lcm x1 x3 = 0 := (fun e => c19 ((Jeq (rg_toInt _) (by decide)).mpr e))
                    replace w := w.1 t20
                    exact w
                  · have t20 : lcm x1 x3 = 0 := ((Jeq (rg_toInt _) (by decide)).mp (Classical.byContradiction c19))
                    replace w := w.2 t20
                    exact w
                · replace w := w.2 (fun e => c21 ((Jeq k1 (by decide)).mpr e))
                  refine ⟨fun c24 => ?_, fun c24 => ?_⟩
                  · replace w := w.1 ((Jeq k1 (by decide)).mp c24)
                    refine ⟨fun c22 => ?_, fun c22 => ?_⟩
                    · have t23 : lcm x1 x3 < 0 := ((Jlt (rg_toInt _) (by decide)).mp c22)
                      replace w := w.1 t23
                      exact w
                    · have t23 : ¬ lcm x1 x3 < 0 := (fun e => c22 ((Jlt (rg_toInt _) (by decide)).mpr e))
                      replace w := w.2 t23
                      exact w
                  · replace w := w.2 (fun e => c24 ((Jeq k1 (by decide)).mpr e))
                    refine ⟨fun c27 => ?_, fun c27 => ?_⟩
                    · replace w := w.1 ((Jeq k1 (by decide)).mp c27)
                      refine ⟨fun c25 => ?_, fun c25 => ?_⟩
                      · have t26 : lcm x1 x3 ≤ 0 := ((Jle (rg_toInt _) (by decide)).mp c25)
                        replace w := w.1 t26
                        exact w
                      · have t26 : ¬ lcm x1 x3 ≤ 0 := (fun e => c25 ((Jle (rg_toInt _) (by decide)).mpr e))
                        replace w := w.2 t26
                        exact w
                    · replace w := w.2 (fun e => c27 ((Jeq k1 (by decide)).mpr e))
                      refine ⟨fun c28 => ?_, fun c28 => ?_⟩
                      · replace w := w.1 ((Jeq k1 (by decide)).mp c28)
                        exact w
                      · replace w := w.2 (fun e => c28 ((Jeq k1 (by decide)).mpr e))
                        refine ⟨fun c29 => ?_, fun c29 => ?_⟩
                        · replace w := w.1 ((Jeq k1 (by decide)).mp c29)
                          exact w
                        · replace w := w.2 (fun e => c29 ((Jeq k1 (by decide)).mpr e))
                          exact w
theorem m95 {X : Cst} {d : Nat} {o : Int} {x y : Int64} {h : AH} {Q : Post} (C : Lay h) (hd : 1 ≤ d) (g : 2 ≤ o ∧ o ≤ 14 ∧ ¬ o = 11) (k : Q (some (.long (opL o x y))) h) : Ex X PG d 95 0 [some (.int (J (cm o))), some (.long x), none, some (.long y), none] [] h Q := by
  obtain ⟨d, rfl⟩ : ∃ e, d = e + 1 := ⟨d - 1, by omega⟩
  have cb : 3 ≤ cm o ∧ cm o ≤ 14 := by unfold cm; repeat' split <;> omega
  refine r95_0 C ⟨by omega, ?_⟩
  have : o = 2 ∨ o = 3 ∨ o = 4 ∨ o = 5 ∨ o = 6 ∨ o = 7 ∨ o = 8 ∨ o = 9 ∨ o = 10 ∨ o = 12 ∨ o = 13 ∨ o = 14 := by omega
  unfold opL at k
  rcases this with rfl | rfl | rfl | rfl | rfl | rfl | rfl | rfl | rfl | rfl | rfl | rfl
  · simp only [show cm 2 = 3 by decide, if_true] at k ⊢
    exact ⟨fun _ => k, fun c => absurd (by trivial) c⟩
  · simp only [show cm 3 = 4 by decide, if_true, show ¬ (3 : Int) = 2 by decide, if_false] at k ⊢
    exact ⟨fun c => absurd c (by decide), fun _ => ⟨fun _ => k, fun c => absurd (by trivial) c⟩⟩
  · simp only [show cm 4 = 5 by decide, if_true, show ¬ (4 : Int) = 2 by decide, show ¬ (4 : Int) = 3 by decide, if_false] at k ⊢
    exact ⟨fun c => absurd c (by decide), fun _ => ⟨fun c => absurd c (by decide), fun _ => ⟨fun _ => k, fun c => absurd (by trivial) c⟩⟩⟩
  · simp only [show cm 5 = 6 by decide, if_true, show ¬ (5 : Int) = 2 by decide, show ¬ (5 : Int) = 3 by decide, show ¬ (5 : Int) = 4 by decide, if_false] at k ⊢
    refine ⟨fun c => absurd c (by decide), fun _ => ⟨fun c => absurd c (by decide), fun _ => ⟨fun c => absurd c (by decide), fun _ => ⟨fun _ => ⟨fun e => ⟨fun z => e (lcm_eq0.mpr z), ?_⟩, fun e => ?_⟩, fun c => absurd (by trivial) c⟩⟩⟩⟩
    · rw [if_neg (fun z => e (lcm_eq0.mpr z))] at k; exact k
    · rw [if_pos (lcm_eq0.mp e)] at k; exact k
  · simp only [show cm 6 = 8 by decide, if_true, show ¬ (6 : Int) = 2 by decide, show ¬ (6 : Int) = 3 by decide, show ¬ (6 : Int) = 4 by decide, show ¬ (6 : Int) = 5 by decide, if_false] at k ⊢
    refine ⟨fun c => absurd c (by decide), fun _ => ⟨fun c => absurd c (by decide), fun _ => ⟨fun c => absurd c (by decide), fun _ => ⟨fun c => absurd c (by decide), fun _ => ⟨fun c => absurd c (by decide), fun _ => ⟨fun _ => ⟨fun e => ?_, fun e => ?_⟩, fun c => absurd (by trivial) c⟩⟩⟩⟩⟩⟩
    · rw [bL_neg (fun z => by have := lcm_lt0.mpr z; omega)] at k; exact k
    · rw [bL_pos (lcm_lt0.mp (by omega))] at k; exact k
  · simp only [show cm 7 = 9 by decide, if_true, show ¬ (7 : Int) = 2 by decide, show ¬ (7 : Int) = 3 by decide, show ¬ (7 : Int) = 4 by decide, show ¬ (7 : Int) = 5 by decide, show ¬ (7 : Int) = 6 by decide, if_false] at k ⊢
    refine ⟨fun c => absurd c (by decide), fun _ => ⟨fun c => absurd c (by decide), fun _ => ⟨fun c => absurd c (by decide), fun _ => ⟨fun c => absurd c (by decide), fun _ => ⟨fun c => absurd c (by decide), fun _ => ⟨fun c => absurd c (by decide), fun _ => ⟨fun _ => ⟨fun e => ?_, fun e => ?_⟩, fun c => absurd (by trivial) c⟩⟩⟩⟩⟩⟩⟩
    · rw [bL_neg (fun z => z (lcm_gt0.mp e))] at k; exact k
    · rw [bL_pos (fun z => e (lcm_gt0.mpr z))] at k; exact k
  · simp only [show cm 8 = 10 by decide, if_true, show ¬ (8 : Int) = 2 by decide, show ¬ (8 : Int) = 3 by decide, show ¬ (8 : Int) = 4 by decide, show ¬ (8 : Int) = 5 by decide, show ¬ (8 : Int) = 6 by decide, show ¬ (8 : Int) = 7 by decide, if_false] at k ⊢
    refine ⟨fun c => absurd c (by decide), fun _ => ⟨fun c => absurd c (by decide), fun _ => ⟨fun c => absurd c (by decide), fun _ => ⟨fun c => absurd c (by decide), fun _ => ⟨fun c => absurd c (by decide), fun _ => ⟨fun c => absurd c (by decide), fun _ => ⟨fun c => absurd c (by decide), fun _ => ⟨fun _ => ⟨fun e => ?_, fun e => ?_⟩, fun c => absurd (by trivial) c⟩⟩⟩⟩⟩⟩⟩⟩
    · rw [bL_neg (fun z => e (lcm_eq0.mpr z))] at k; exact k
    · rw [bL_pos (lcm_eq0.mp e)] at k; exact k
  · simp only [show cm 9 = 11 by decide, if_true, show ¬ (9 : Int) = 2 by decide, show ¬ (9 : Int) = 3 by decide, show ¬ (9 : Int) = 4 by decide, show ¬ (9 : Int) = 5 by decide, show ¬ (9 : Int) = 6 by decide, show ¬ (9 : Int) = 7 by decide, show ¬ (9 : Int) = 8 by decide, if_false] at k ⊢
    refine ⟨fun c => absurd c (by decide), fun _ => ⟨fun c => absurd c (by decide), fun _ => ⟨fun c => absurd c (by decide), fun _ => ⟨fun c => absurd c (by decide), fun _ => ⟨fun c => absurd c (by decide), fun _ => ⟨fun c => absurd c (by decide), fun _ => ⟨fun c => absurd c (by decide), fun _ => ⟨fun c => absurd c (by decide), fun _ => ⟨fun _ => ⟨fun e => ?_, fun e => ?_⟩, fun c => absurd (by trivial) c⟩⟩⟩⟩⟩⟩⟩⟩⟩
    · rw [bL_neg (fun z => z (lcm_lt0.mp e))] at k; exact k
    · rw [bL_pos (fun z => e (lcm_lt0.mpr z))] at k; exact k
  · simp only [show cm 10 = 12 by decide, if_true, show ¬ (10 : Int) = 2 by decide, show ¬ (10 : Int) = 3 by decide, show ¬ (10 : Int) = 4 by decide, show ¬ (10 : Int) = 5 by decide, show ¬ (10 : Int) = 6 by decide, show ¬ (10 : Int) = 7 by decide, show ¬ (10 : Int) = 8 by decide, show ¬ (10 : Int) = 9 by decide, if_false] at k ⊢
    refine ⟨fun c => absurd c (by decide), fun _ => ⟨fun c => absurd c (by decide), fun _ => ⟨fun c => absurd c (by decide), fun _ => ⟨fun c => absurd c (by decide), fun _ => ⟨fun c => absurd c (by decide), fun _ => ⟨fun c => absurd c (by decide), fun _ => ⟨fun c => absurd c (by decide), fun _ => ⟨fun c => absurd c (by decide), fun _ => ⟨fun c => absurd c (by decide), fun _ => ⟨fun _ => ⟨fun e => ?_, fun e => ?_⟩, fun c => absurd (by trivial) c⟩⟩⟩⟩⟩⟩⟩⟩⟩⟩
    · rw [bL_neg (fun z => by have := lcm_gt0.mpr z; omega)] at k; exact k
    · rw [bL_pos (lcm_gt0.mp (by omega))] at k; exact k
  · simp only [show cm 12 = 13 by decide, if_true, show ¬ (12 : Int) = 2 by decide, show ¬ (12 : Int) = 3 by decide, show ¬ (12 : Int) = 4 by decide, show ¬ (12 : Int) = 5 by decide, show ¬ (12 : Int) = 6 by decide, show ¬ (12 : Int) = 7 by decide, show ¬ (12 : Int) = 8 by decide, show ¬ (12 : Int) = 9 by decide, show ¬ (12 : Int) = 10 by decide, if_false] at k ⊢
    exact ⟨fun c => absurd c (by decide), fun _ => ⟨fun c => absurd c (by decide), fun _ => ⟨fun c => absurd c (by decide), fun _ => ⟨fun c => absurd c (by decide), fun _ => ⟨fun c => absurd c (by decide), fun _ => ⟨fun c => absurd c (by decide), fun _ => ⟨fun c => absurd c (by decide), fun _ => ⟨fun c => absurd c (by decide), fun _ => ⟨fun c => absurd c (by decide), fun _ => ⟨fun c => absurd c (by decide), fun _ => ⟨fun _ => k, fun c => absurd (by trivial) c⟩⟩⟩⟩⟩⟩⟩⟩⟩⟩⟩
  · simp only [show cm 13 = 14 by decide, if_true, show ¬ (13 : Int) = 2 by decide, show ¬ (13 : Int) = 3 by decide, show ¬ (13 : Int) = 4 by decide, show ¬ (13 : Int) = 5 by decide, show ¬ (13 : Int) = 6 by decide, show ¬ (13 : Int) = 7 by decide, show ¬ (13 : Int) = 8 by decide, show ¬ (13 : Int) = 9 by decide, show ¬ (13 : Int) = 10 by decide, show ¬ (13 : Int) = 12 by decide, show ¬ (13 : Int) = 14 by decide, if_false] at k ⊢
    exact ⟨fun c => absurd c (by decide), fun _ => ⟨fun c => absurd c (by decide), fun _ => ⟨fun c => absurd c (by decide), fun _ => ⟨fun c => absurd c (by decide), fun _ => ⟨fun c => absurd c (by decide), fun _ => ⟨fun c => absurd c (by decide), fun _ => ⟨fun c => absurd c (by decide), fun _ => ⟨fun c => absurd c (by decide), fun _ => ⟨fun c => absurd c (by decide), fun _ => ⟨fun c => absurd c (by decide), fun _ => ⟨fun c => absurd c (by decide), fun _ => ⟨fun _ => k, fun c => absurd (by trivial) c⟩⟩⟩⟩⟩⟩⟩⟩⟩⟩⟩⟩
  · simp only [show cm 14 = 7 by decide, if_true, show ¬ (14 : Int) = 2 by decide, show ¬ (14 : Int) = 3 by decide, show ¬ (14 : Int) = 4 by decide, show ¬ (14 : Int) = 5 by decide, show ¬ (14 : Int) = 6 by decide, show ¬ (14 : Int) = 7 by decide, show ¬ (14 : Int) = 8 by decide, show ¬ (14 : Int) = 9 by decide, show ¬ (14 : Int) = 10 by decide, show ¬ (14 : Int) = 12 by decide, if_false] at k ⊢
    refine ⟨fun c => absurd c (by decide), fun _ => ⟨fun c => absurd c (by decide), fun _ => ⟨fun c => absurd c (by decide), fun _ => ⟨fun c => absurd c (by decide), fun _ => ⟨fun _ => ⟨fun e => ⟨fun z => e (lcm_eq0.mpr z), ?_⟩, fun e => ?_⟩, fun c => absurd (by trivial) c⟩⟩⟩⟩⟩
    · rw [if_neg (fun z => e (lcm_eq0.mpr z))] at k; exact k
    · rw [if_pos (lcm_eq0.mp e)] at k; exact k
-- OutwardDoors$Rule.wordAt([II)J at 0
set_option maxRecDepth 20000 in
set_option maxHeartbeats 4000000 in
theorem r94_0 {X : Cst} {d : Nat} {x1 : Int} {h : AH} {Q : Post} (C_h : Lay h)
  (w : (-2147483648 ≤ x1 ∧ x1 < 2147483648) ∧ ((x1 < 0 → Q (some (.long (0 : Int64))) h) ∧ (¬ x1 < 0 → ((12 ≤ x1 → Q (some (.long (0 : Int64))) h) ∧ (¬ 12 ≤ x1 → (0 ≤ x1 ∧ x1 < 12) ∧ Q (some (.long (i2l (aI h 246 x1)))) h))))) :
    Ex X PG (d + 1) 94 0 [some (.ref 246), some (.int (J x1))] [] h Q := by
  refine wpx_ok (cut := []) 12 d 94 0 _ _ _ _ ?_
  show (((J x1) < (J 0) → Q (some (.long (0 : Int64))) h) ∧ (¬ ((J x1) < (J 0)) → 1 ≤ (hs h 246).1 ∧ (((nI (hs h 246).2) ≤ (J x1) → Q (some (.long (0 : Int64))) h) ∧ (¬ ((nI (hs h 246).2) ≤ (J x1)) → (hs h 246).1 = 1 ∧ ix (J x1) (hs h 246).2 ∧ Q (some (.long (Int32.toInt64 (hI h 246 (Int32.toNatClampNeg (J x1)))))) h))))
  try simp only [aI_wAL, fI_wAL, aL_wA, aL_wF, aI_wA_ne, aI_wF_ne, fI_wA_ne, fI_wF_ne, fI_wF_nk, aL_wAL_ne, J_sameA, J_sameF, aL_same, Nat.add_left_cancel_iff, Nat.add_eq_left, Nat.left_eq_add, not_false_eq_true, Nat.reduceEqDiff, Nat.reduceAdd, J_add, J_sub, J_mul, J_neg, J_and, J_or, J_xor, J_shl, J_shr, J_div, J_i2b, J_i2l, J_l2i, J_lcm, J_max, J_min, J_nab, J_nao, rdA, rdF, rdL, wA_fold, wF_fold, wL_fold, wC_fold]
  obtain ⟨k3, w⟩ := w
  refine ⟨fun c1 => ?_, fun c1 => ?_⟩
  · have t2 : x1 < 0 := ((Jlt k3 (by decide)).mp c1)
    replace w := w.1 t2
    exact w
  · have t2 : ¬ x1 < 0 := (fun e => c1 ((Jlt k3 (by decide)).mpr e))
    replace w := w.2 t2
    refine ⟨by rw [(ls246 C_h)]; show 1 ≤ 1; decide, ?_⟩
    rw [show nI (hs h 246).2 = J 12 from by rw [(ls246 C_h)]; exact rfl]
    try simp only [aI_wAL, fI_wAL, aL_wA, aL_wF, aI_wA_ne, aI_wF_ne, fI_wA_ne, fI_wF_ne, fI_wF_nk, aL_wAL_ne, J_sameA, J_sameF, aL_same, Nat.add_left_cancel_iff, Nat.add_eq_left, Nat.left_eq_add, not_false_eq_true, Nat.reduceEqDiff, Nat.reduceAdd, J_add, J_sub, J_mul, J_neg, J_and, J_or, J_xor, J_shl, J_shr, J_div, J_i2b, J_i2l, J_l2i, J_lcm, J_max, J_min, J_nab, J_nao, rdA, rdF, rdL, wA_fold, wF_fold, wL_fold, wC_fold]
    refine ⟨fun c4 => ?_, fun c4 => ?_⟩
    · have t5 : 12 ≤ x1 := ((Jle (by decide) k3).mp c4)
      replace w := w.1 t5
      exact w
    · have t5 : ¬ 12 ≤ x1 := (fun e => c4 ((Jle (by decide) k3).mpr e))
      replace w := w.2 t5
      obtain ⟨k6, w⟩ := w
      refine ⟨congrArg Prod.fst (ls246 C_h), ixs (ls246 C_h) k6 (by decide), ?_⟩
      exact w
theorem m94 {X : Cst} {d : Nat} {x : Int} {h : AH} {Q : Post} (C : Lay h) (hd : 1 ≤ d) (c : 0 ≤ x ∧ x < 12) (k : Q (some (.long (i2l (aI h 246 x)))) h) : Ex X PG d 94 0 [some (.ref 246), some (.int (J x))] [] h Q := by
  obtain ⟨d, rfl⟩ : ∃ e, d = e + 1 := ⟨d - 1, by omega⟩
  exact r94_0 C ⟨by omega, fun z => absurd z (by omega), fun _ => ⟨fun z => absurd z (by omega), fun _ => ⟨c, k⟩⟩⟩
-- OutwardDoors$Rule.worth(II[I)J at 0
set_option maxRecDepth 20000 in
set_option maxHeartbeats 4000000 in
theorem r93_0 {X : Cst} {d : Nat} {a : Nat} {x1 : Int} {x2 : Int} {h : AH} {Q : Post} (C_h : Lay h) (K_h_0 : RuleAt h a)
  (w : Ex X PG (d + 1) 93 6 [some (.ref a), some (.int (J x1)), some (.int (J x2)), some (.ref 246), some (.int (J 0)), some (.int (J x1)), none, none] [] h Q) :
    Ex X PG (d + 1) 93 0 [some (.ref a), some (.int (J x1)), some (.int (J x2)), some (.ref 246), none, none, none, none] [] h Q := by
  refine wpx_ok (cut := [6]) 4 d 93 0 _ _ _ _ ?_
  show Ex X PG (d + 1) 93 6 [some (.ref a), some (.int (J x1)), some (.int (J x2)), some (.ref 246), some (.int (J 0)), some (.int (J x1)), none, none] [] h Q
  try simp only [aI_wAL, fI_wAL, aL_wA, aL_wF, aI_wA_ne, aI_wF_ne, fI_wA_ne, fI_wF_ne, fI_wF_nk, aL_wAL_ne, J_sameA, J_sameF, aL_same, Nat.add_left_cancel_iff, Nat.add_eq_left, Nat.left_eq_add, not_false_eq_true, Nat.reduceEqDiff, Nat.reduceAdd, J_add, J_sub, J_mul, J_neg, J_and, J_or, J_xor, J_shl, J_shr, J_div, J_i2b, J_i2l, J_l2i, J_lcm, J_max, J_min, J_nab, J_nao, rdA, rdF, rdL, wA_fold, wF_fold, wL_fold, wC_fold]
  exact w
-- OutwardDoors$Rule.worth(II[I)J at 6
set_option maxRecDepth 20000 in
set_option maxHeartbeats 4000000 in
theorem r93_6 {X : Cst} {d : Nat} {a : Nat} {x1 : Int} {x2 : Int} {x4 : Int} {x5 : Int} {l6 : Option Value} {l7 : Option Value} {h : AH} {Q : Post} (C_h : Lay h) (K_h_0 : RuleAt h a) (hd : 1 ≤ d)
  (w : (-2147483648 ≤ x5 ∧ x5 < 2147483648) ∧ (-2147483648 ≤ x2 ∧ x2 < 2147483648) ∧ ((x2 ≤ x5 → (-2147483648 ≤ x4 ∧ x4 < 2147483648) ∧ ((x4 ≤ 0 → Q (some (.long (0 : Int64))) h) ∧ (¬ x4 ≤ 0 → (0 ≤ x4 - 1 ∧ x4 - 1 < 64) ∧ Q (some (.long (aL h (a + 4) (x4 - 1)))) h))) ∧ (¬ x2 ≤ x5 → ((400 ≤ x5 → (-2147483648 ≤ x4 ∧ x4 < 2147483648) ∧ ((x4 ≤ 0 → Q (some (.long (0 : Int64))) h) ∧ (¬ x4 ≤ 0 → (0 ≤ x4 - 1 ∧ x4 - 1 < 64) ∧ Q (some (.long (aL h (a + 4) (x4 - 1)))) h))) ∧ (¬ 400 ≤ x5 → (0 ≤ x5 ∧ x5 < 400) ∧ ((iand (aI h (a + 1) x5) 15 = 1 → (-2147483648 ≤ x4 ∧ x4 < 2147483648) ∧ ((64 ≤ x4 → Ex X PG (d + 1) 93 6 [some (.ref a), some (.int (J x1)), some (.int (J x2)), some (.ref 246), some (.int (J x4)), some (.int (J (x5 + 1))), some (.int (J (iand (aI h (a + 1) x5) 15))), some (.int (J (shr (aI h (a + 1) x5) (iand 4 31))))] [] h Q) ∧ (¬ 64 ≤ x4 → (0 ≤ x4 ∧ x4 < 64) ∧ Ex X PG (d + 1) 93 6 [some (.ref a), some (.int (J x1)), some (.int (J x2)), some (.ref 246), some (.int (J (x4 + 1))), some (.int (J (x5 + 1))), some (.int (J (iand (aI h (a + 1) x5) 15))), some (.int (J (shr (aI h (a + 1) x5) (iand 4 31))))] [] (wAL h (a + 4) x4 (i2l (shr (aI h (a + 1) x5) (iand 4 31)))) Q))) ∧ (¬ iand (aI h (a + 1) x5) 15 = 1 → ((¬ iand (aI h (a + 1) x5) 15 = 2 → ((¬ iand (aI h (a + 1) x5) 15 = 15 → (-2147483648 ≤ x4 ∧ x4 < 2147483648) ∧ ((x4 ≤ 1 → Ex X PG (d + 1) 93 6 [some (.ref a), some (.int (J x1)), some (.int (J x2)), some (.ref 246), some (.int (J x4)), some (.int (J (x5 + 1))), some (.int (J (iand (aI h (a + 1) x5) 15))), some (.int (J (shr (aI h (a + 1) x5) (iand 4 31))))] [] h Q) ∧ (¬ x4 ≤ 1 → (0 ≤ (x4 + (-1)) - 1 ∧ (x4 + (-1)) - 1 < 64) ∧ (0 ≤ x4 + (-1) ∧ x4 + (-1) < 64) ∧ Ex X PG d 95 0 [some (.int (J (iand (aI h (a + 1) x5) 15))), some (.long (aL h (a + 4) ((x4 + (-1)) - 1))), none, some (.long (aL h (a + 4) (x4 + (-1)))), none] [] h (fun v46 h47 => ∃ r48, v46 = some (.long r48) ∧ SH h h47 ∧ Ex X PG (d + 1) 93 6 [some (.ref a), some (.int (J x1)), some (.int (J x2)), some (.ref 246), some (.int (J (x4 + (-1)))), some (.int (J (x5 + 1))), some (.int (J (iand (aI h (a + 1) x5) 15))), some (.int (J (shr (aI h (a + 1) x5) (iand 4 31))))] [] (wAL h47 (a + 4) ((x4 + (-1)) - 1) r48) Q)))) ∧ (iand (aI h (a + 1) x5) 15 = 15 → (-2147483648 ≤ x4 ∧ x4 < 2147483648) ∧ ((x4 ≤ 0 → Ex X PG (d + 1) 93 6 [some (.ref a), some (.int (J x1)), some (.int (J x2)), some (.ref 246), some (.int (J x4)), some (.int (J (x5 + 1))), some (.int (J (iand (aI h (a + 1) x5) 15))), some (.int (J (shr (aI h (a + 1) x5) (iand 4 31))))] [] h Q) ∧ (¬ x4 ≤ 0 → (0 ≤ x4 - 1 ∧ x4 - 1 < 64) ∧ Ex X PG (d + 1) 93 6 [some (.ref a), some (.int (J x1)), some (.int (J x2)), some (.ref 246), some (.int (J x4)), some (.int (J (x5 + 1))), some (.int (J (iand (aI h (a + 1) x5) 15))), some (.int (J (shr (aI h (a + 1) x5) (iand 4 31))))] [] (wAL h (a + 4) (x4 - 1) ((1 : Int64) - (aL h (a + 4) (x4 - 1)))) Q))))) ∧ (iand (aI h (a + 1) x5) 15 = 2 → (-2147483648 ≤ x4 ∧ x4 < 2147483648) ∧ ((64 ≤ x4 → Ex X PG (d + 1) 93 6 [some (.ref a), some (.int (J x1)), some (.int (J x2)), some (.ref 246), some (.int (J x4)), some (.int (J (x5 + 1))), some (.int (J (iand (aI h (a + 1) x5) 15))), some (.int (J (shr (aI h (a + 1) x5) (iand 4 31))))] [] h Q) ∧ (¬ 64 ≤ x4 → (0 ≤ (shr (aI h (a + 1) x5) (iand 4 31)) ∧ (shr (aI h (a + 1) x5) (iand 4 31)) < 12) ∧ (0 ≤ x4 ∧ x4 < 64) ∧ Ex X PG (d + 1) 93 6 [some (.ref a), some (.int (J x1)), some (.int (J x2)), some (.ref 246), some (.int (J (x4 + 1))), some (.int (J (x5 + 1))), some (.int (J (iand (aI h (a + 1) x5) 15))), some (.int (J (shr (aI h (a + 1) x5) (iand 4 31))))] [] (wAL h (a + 4) x4 (i2l (aI h 246 (shr (aI h (a + 1) x5) (iand 4 31))))) Q))))))))))) :
    Ex X PG (d + 1) 93 6 [some (.ref a), some (.int (J x1)), some (.int (J x2)), some (.ref 246), some (.int (J x4)), some (.int (J x5)), l6, l7] [] h Q := by
  refine wpx_ok (cut := [6]) 53 d 93 6 _ _ _ _ ?_
  show (((J x2) ≤ (J x5) → (((J x4) ≤ (J 0) → Q (some (.long (0 : Int64))) h) ∧ (¬ ((J x4) ≤ (J 0)) → hs h a = (0, 4) ∧ ∃ q8, hR h a 3 = some q8 ∧ (hs h q8).1 = 2 ∧ ix ((J x4) - (J 1)) (hs h q8).2 ∧ Q (some (.long (hL h q8 (Int32.toNatClampNeg ((J x4) - (J 1)))))) h))) ∧ (¬ ((J x2) ≤ (J x5)) → (((J 400) ≤ (J x5) → (((J x4) ≤ (J 0) → Q (some (.long (0 : Int64))) h) ∧ (¬ ((J x4) ≤ (J 0)) → hs h a = (0, 4) ∧ ∃ q15, hR h a 3 = some q15 ∧ (hs h q15).1 = 2 ∧ ix ((J x4) - (J 1)) (hs h q15).2 ∧ Q (some (.long (hL h q15 (Int32.toNatClampNeg ((J x4) - (J 1)))))) h))) ∧ (¬ ((J 400) ≤ (J x5)) → hs h a = (0, 4) ∧ ∃ q17, hR h a 0 = some q17 ∧ (hs h q17).1 = 1 ∧ ix (J x5) (hs h q17).2 ∧ hs h a = (0, 4) ∧ ∃ q19, hR h a 0 = some q19 ∧ (hs h q19).1 = 1 ∧ ix (J x5) (hs h q19).2 ∧ ((((hI h q17 (Int32.toNatClampNeg (J x5))) &&& (J 15)) = (J 1) → (((J 64) ≤ (J x4) → Ex X PG (d + 1) 93 6 [some (.ref a), some (.int (J x1)), some (.int (J x2)), some (.ref 246), some (.int (J x4)), some (.int ((J x5) + (J 1))), some (.int ((hI h q17 (Int32.toNatClampNeg (J x5))) &&& (J 15))), some (.int ((hI h q19 (Int32.toNatClampNeg (J x5))) >>> ((J 4) &&& J 31)))] [] h Q) ∧ (¬ ((J 64) ≤ (J x4)) → hs h a = (0, 4) ∧ ∃ q25, hR h a 3 = some q25 ∧ ((¬ ((hI h q17 (Int32.toNatClampNeg (J x5))) &&& (J 15)) = (J 1) → Ex X PG d 94 0 [some (.ref 246), some (.int ((hI h q19 (Int32.toNatClampNeg (J x5))) >>> ((J 4) &&& J 31)))] [] h (fun v28 h29 => ∃ r30, v28 = some (.long r30) ∧ (hs h29 q25).1 = 2 ∧ ix (J x4) (hs h29 q25).2 ∧ Ex X PG (d + 1) 93 6 [some (.ref a), some (.int (J x1)), some (.int (J x2)), some (.ref 246), some (.int ((J x4) + (J 1))), some (.int ((J x5) + (J 1))), some (.int ((hI h q17 (Int32.toNatClampNeg (J x5))) &&& (J 15))), some (.int ((hI h q19 (Int32.toNatClampNeg (J x5))) >>> ((J 4) &&& J 31)))] [] (wL h29 q25 (Int32.toNatClampNeg (J x4)) r30) Q)) ∧ (¬ (¬ ((hI h q17 (Int32.toNatClampNeg (J x5))) &&& (J 15)) = (J 1)) → (hs h q25).1 = 2 ∧ ix (J x4) (hs h q25).2 ∧ Ex X PG (d + 1) 93 6 [some (.ref a), some (.int (J x1)), some (.int (J x2)), some (.ref 246), some (.int ((J x4) + (J 1))), some (.int ((J x5) + (J 1))), some (.int ((hI h q17 (Int32.toNatClampNeg (J x5))) &&& (J 15))), some (.int ((hI h q19 (Int32.toNatClampNeg (J x5))) >>> ((J 4) &&& J 31)))] [] (wL h q25 (Int32.toNatClampNeg (J x4)) (Int32.toInt64 ((hI h q19 (Int32.toNatClampNeg (J x5))) >>> ((J 4) &&& J 31)))) Q))))) ∧ (¬ (((hI h q17 (Int32.toNatClampNeg (J x5))) &&& (J 15)) = (J 1)) → ((¬ ((hI h q17 (Int32.toNatClampNeg (J x5))) &&& (J 15)) = (J 2) → ((¬ ((hI h q17 (Int32.toNatClampNeg (J x5))) &&& (J 15)) = (J 15) → (((J x4) ≤ (J 1) → Ex X PG (d + 1) 93 6 [some (.ref a), some (.int (J x1)), some (.int (J x2)), some (.ref 246), some (.int (J x4)), some (.int ((J x5) + (J 1))), some (.int ((hI h q17 (Int32.toNatClampNeg (J x5))) &&& (J 15))), some (.int ((hI h q19 (Int32.toNatClampNeg (J x5))) >>> ((J 4) &&& J 31)))] [] h Q) ∧ (¬ ((J x4) ≤ (J 1)) → hs h a = (0, 4) ∧ ∃ q41, hR h a 3 = some q41 ∧ hs h a = (0, 4) ∧ ∃ q42, hR h a 3 = some q42 ∧ (hs h q42).1 = 2 ∧ ix (((J x4) + (J (-1))) - (J 1)) (hs h q42).2 ∧ hs h a = (0, 4) ∧ ∃ q44, hR h a 3 = some q44 ∧ (hs h q44).1 = 2 ∧ ix ((J x4) + (J (-1))) (hs h q44).2 ∧ Ex X PG d 95 0 [some (.int ((hI h q17 (Int32.toNatClampNeg (J x5))) &&& (J 15))), some (.long (hL h q42 (Int32.toNatClampNeg (((J x4) + (J (-1))) - (J 1))))), none, some (.long (hL h q44 (Int32.toNatClampNeg ((J x4) + (J (-1)))))), none] [] h (fun v46 h47 => ∃ r48, v46 = some (.long r48) ∧ (hs h47 q41).1 = 2 ∧ ix (((J x4) + (J (-1))) - (J 1)) (hs h47 q41).2 ∧ Ex X PG (d + 1) 93 6 [some (.ref a), some (.int (J x1)), some (.int (J x2)), some (.ref 246), some (.int ((J x4) + (J (-1)))), some (.int ((J x5) + (J 1))), some (.int ((hI h q17 (Int32.toNatClampNeg (J x5))) &&& (J 15))), some (.int ((hI h q19 (Int32.toNatClampNeg (J x5))) >>> ((J 4) &&& J 31)))] [] (wL h47 q41 (Int32.toNatClampNeg (((J x4) + (J (-1))) - (J 1))) r48) Q)))) ∧ (¬ (¬ ((hI h q17 (Int32.toNatClampNeg (J x5))) &&& (J 15)) = (J 15)) → (((J x4) ≤ (J 0) → Ex X PG (d + 1) 93 6 [some (.ref a), some (.int (J x1)), some (.int (J x2)), some (.ref 246), some (.int (J x4)), some (.int ((J x5) + (J 1))), some (.int ((hI h q17 (Int32.toNatClampNeg (J x5))) &&& (J 15))), some (.int ((hI h q19 (Int32.toNatClampNeg (J x5))) >>> ((J 4) &&& J 31)))] [] h Q) ∧ (¬ ((J x4) ≤ (J 0)) → hs h a = (0, 4) ∧ ∃ q53, hR h a 3 = some q53 ∧ hs h a = (0, 4) ∧ ∃ q54, hR h a 3 = some q54 ∧ (hs h q54).1 = 2 ∧ ix ((J x4) - (J 1)) (hs h q54).2 ∧ (hs h q53).1 = 2 ∧ ix ((J x4) - (J 1)) (hs h q53).2 ∧ Ex X PG (d + 1) 93 6 [some (.ref a), some (.int (J x1)), some (.int (J x2)), some (.ref 246), some (.int (J x4)), some (.int ((J x5) + (J 1))), some (.int ((hI h q17 (Int32.toNatClampNeg (J x5))) &&& (J 15))), some (.int ((hI h q19 (Int32.toNatClampNeg (J x5))) >>> ((J 4) &&& J 31)))] [] (wL h q53 (Int32.toNatClampNeg ((J x4) - (J 1))) ((1 : Int64) - (hL h q54 (Int32.toNatClampNeg ((J x4) - (J 1)))))) Q))))) ∧ (¬ (¬ ((hI h q17 (Int32.toNatClampNeg (J x5))) &&& (J 15)) = (J 2)) → (((J 64) ≤ (J x4) → Ex X PG (d + 1) 93 6 [some (.ref a), some (.int (J x1)), some (.int (J x2)), some (.ref 246), some (.int (J x4)), some (.int ((J x5) + (J 1))), some (.int ((hI h q17 (Int32.toNatClampNeg (J x5))) &&& (J 15))), some (.int ((hI h q19 (Int32.toNatClampNeg (J x5))) >>> ((J 4) &&& J 31)))] [] h Q) ∧ (¬ ((J 64) ≤ (J x4)) → hs h a = (0, 4) ∧ ∃ q59, hR h a 3 = some q59 ∧ ((¬ ((hI h q17 (Int32.toNatClampNeg (J x5))) &&& (J 15)) = (J 1) → Ex X PG d 94 0 [some (.ref 246), some (.int ((hI h q19 (Int32.toNatClampNeg (J x5))) >>> ((J 4) &&& J 31)))] [] h (fun v62 h63 => ∃ r64, v62 = some (.long r64) ∧ (hs h63 q59).1 = 2 ∧ ix (J x4) (hs h63 q59).2 ∧ Ex X PG (d + 1) 93 6 [some (.ref a), some (.int (J x1)), some (.int (J x2)), some (.ref 246), some (.int ((J x4) + (J 1))), some (.int ((J x5) + (J 1))), some (.int ((hI h q17 (Int32.toNatClampNeg (J x5))) &&& (J 15))), some (.int ((hI h q19 (Int32.toNatClampNeg (J x5))) >>> ((J 4) &&& J 31)))] [] (wL h63 q59 (Int32.toNatClampNeg (J x4)) r64) Q)) ∧ (¬ (¬ ((hI h q17 (Int32.toNatClampNeg (J x5))) &&& (J 15)) = (J 1)) → (hs h q59).1 = 2 ∧ ix (J x4) (hs h q59).2 ∧ Ex X PG (d + 1) 93 6 [some (.ref a), some (.int (J x1)), some (.int (J x2)), some (.ref 246), some (.int ((J x4) + (J 1))), some (.int ((J x5) + (J 1))), some (.int ((hI h q17 (Int32.toNatClampNeg (J x5))) &&& (J 15))), some (.int ((hI h q19 (Int32.toNatClampNeg (J x5))) >>> ((J 4) &&& J 31)))] [] (wL h q59 (Int32.toNatClampNeg (J x4)) (Int32.toInt64 ((hI h q19 (Int32.toNatClampNeg (J x5))) >>> ((J 4) &&& J 31)))) Q))))))))))))
  try simp only [aI_wAL, fI_wAL, aL_wA, aL_wF, aI_wA_ne, aI_wF_ne, fI_wA_ne, fI_wF_ne, fI_wF_nk, aL_wAL_ne, J_sameA, J_sameF, aL_same, Nat.add_left_cancel_iff, Nat.add_eq_left, Nat.left_eq_add, not_false_eq_true, Nat.reduceEqDiff, Nat.reduceAdd, J_add, J_sub, J_mul, J_neg, J_and, J_or, J_xor, J_shl, J_shr, J_div, J_i2b, J_i2l, J_l2i, J_lcm, J_max, J_min, J_nab, J_nao, rdA, rdF, rdL, wA_fold, wF_fold, wL_fold, wC_fold]
  obtain ⟨k3, w⟩ := w
  obtain ⟨k4, w⟩ := w
  refine ⟨fun c1 => ?_, fun c1 => ?_⟩
  · have t2 : x2 ≤ x5 := ((Jle k4 k3).mp c1)
    replace w := w.1 t2
    obtain ⟨k7, w⟩ := w
    refine ⟨fun c5 => ?_, fun c5 => ?_⟩
    · have t6 : x4 ≤ 0 := ((Jle k7 (by decide)).mp c5)
      replace w := w.1 t6
      exact w
    · have t6 : ¬ x4 ≤ 0 := (fun e => c5 ((Jle k7 (by decide)).mpr e))
      replace w := w.2 t6
      refine ⟨(rule_0 K_h_0), _, (rule_8 K_h_0), ?_⟩
      obtain ⟨k9, w⟩ := w
      refine ⟨congrArg Prod.fst (rule_4 K_h_0), ixs (rule_4 K_h_0) k9 (by decide), ?_⟩
      exact w
  · have t2 : ¬ x2 ≤ x5 := (fun e => c1 ((Jle k4 k3).mpr e))
    replace w := w.2 t2
    refine ⟨fun c10 => ?_, fun c10 => ?_⟩
    · have t11 : 400 ≤ x5 := ((Jle (by decide) k3).mp c10)
      replace w := w.1 t11
      obtain ⟨k14, w⟩ := w
      refine ⟨fun c12 => ?_, fun c12 => ?_⟩
      · have t13 : x4 ≤ 0 := ((Jle k14 (by decide)).mp c12)
        replace w := w.1 t13
        exact w
      · have t13 : ¬ x4 ≤ 0 := (fun e => c12 ((Jle k14 (by decide)).mpr e))
        replace w := w.2 t13
        refine ⟨(rule_0 K_h_0), _, (rule_8 K_h_0), ?_⟩
        obtain ⟨k16, w⟩ := w
        refine ⟨congrArg Prod.fst (rule_4 K_h_0), ixs (rule_4 K_h_0) k16 (by decide), ?_⟩
        exact w
    · have t11 : ¬ 400 ≤ x5 := (fun e => c10 ((Jle (by decide) k3).mpr e))
      replace w := w.2 t11
      refine ⟨(rule_0 K_h_0), _, (rule_5 K_h_0), ?_⟩
      obtain ⟨k18, w⟩ := w
      refine ⟨congrArg Prod.fst (rule_1 K_h_0), ixs (rule_1 K_h_0) k18 (by decide), ?_⟩
      refine ⟨(rule_0 K_h_0), _, (rule_5 K_h_0), ?_⟩
      refine ⟨congrArg Prod.fst (rule_1 K_h_0), ixs (rule_1 K_h_0) k18 (by decide), ?_⟩
      refine ⟨fun c20 => ?_, fun c20 => ?_⟩
      · have t21 : iand (aI h (a + 1) x5) 15 = 1 := ((Jeq (rg_toInt _) (by decide)).mp c20)
        replace w := w.1 t21
        obtain ⟨k24, w⟩ := w
        refine ⟨fun c22 => ?_, fun c22 => ?_⟩
        · have t23 : 64 ≤ x4 := ((Jle (by decide) k24).mp c22)
          replace w := w.1 t23
          exact w
        · have t23 : ¬ 64 ≤ x4 := (fun e => c22 ((Jle (by decide) k24).mpr e))
          replace w := w.2 t23
          refine ⟨(rule_0 K_h_0), _, (rule_8 K_h_0), ?_⟩
          refine ⟨fun c26 => absurd c26 (fun q => q ((Jeq (rg_toInt _) (by decide)).mpr t21)), fun _ => ?_⟩
          obtain ⟨k33, w⟩ := w
          refine ⟨congrArg Prod.fst (rule_4 K_h_0), ixs (rule_4 K_h_0) k33 (by decide), ?_⟩
          exact w
      · have t21 : ¬ iand (aI h (a + 1) x5) 15 = 1 := (fun e => c20 ((Jeq (rg_toInt _) (by decide)).mpr e))
        replace w := w.2 t21
        refine ⟨fun c34 => ?_, fun c34 => ?_⟩
        · have t35 : ¬ iand (aI h (a + 1) x5) 15 = 2 := (fun e => c34 ((Jeq (rg_toInt _) (by decide)).mpr e))
          replace w := w.1 t35
          refine ⟨fun c36 => ?_, fun c36 => ?_⟩
          · have t37 : ¬ iand (aI h (a + 1) x5) 15 = 15 := (fun e => c36 ((Jeq (rg_toInt _) (by decide)).mpr e))
            replace w := w.1 t37
            obtain ⟨k40, w⟩ := w
            refine ⟨fun c38 => ?_, fun c38 => ?_⟩
            · have t39 : x4 ≤ 1 := ((Jle k40 (by decide)).mp c38)
              replace w := w.1 t39
              exact w
            · have t39 : ¬ x4 ≤ 1 := (fun e => c38 ((Jle k40 (by decide)).mpr e))
              replace w := w.2 t39
              refine ⟨(rule_0 K_h_0), _, (rule_8 K_h_0), ?_⟩
              refine ⟨(rule_0 K_h_0), _, (rule_8 K_h_0), ?_⟩
              obtain ⟨k43, w⟩ := w
              refine ⟨congrArg Prod.fst (rule_4 K_h_0), ixs (rule_4 K_h_0) k43 (by decide), ?_⟩
              refine ⟨(rule_0 K_h_0), _, (rule_8 K_h_0), ?_⟩
              obtain ⟨k45, w⟩ := w
              refine ⟨congrArg Prod.fst (rule_4 K_h_0), ixs (rule_4 K_h_0) k45 (by decide), ?_⟩
              refine Ex.mono w (Nat.le_refl _) ?_
              rintro v46 h47 ⟨r48, rfl, s49, w⟩
              refine ⟨_, rfl, ?_⟩
              have C_h47 := Lay_SH s49 C_h
              have K_h47_0 := RuleAt_SH s49 K_h_0
              try simp only [aI_wAL, fI_wAL, aL_wA, aL_wF, aI_wA_ne, aI_wF_ne, fI_wA_ne, fI_wF_ne, fI_wF_nk, aL_wAL_ne, J_sameA, J_sameF, aL_same, Nat.add_left_cancel_iff, Nat.add_eq_left, Nat.left_eq_add, not_false_eq_true, Nat.reduceEqDiff, Nat.reduceAdd, J_add, J_sub, J_mul, J_neg, J_and, J_or, J_xor, J_shl, J_shr, J_div, J_i2b, J_i2l, J_l2i, J_lcm, J_max, J_min, J_nab, J_nao, rdA, rdF, rdL, wA_fold, wF_fold, wL_fold, wC_fold]
              refine ⟨congrArg Prod.fst (rule_4 K_h47_0), ixs (rule_4 K_h47_0) k43 (by decide), ?_⟩
              exact w
          · have t37 : iand (aI h (a + 1) x5) 15 = 15 := ((Jeq (rg_toInt _) (by decide)).mp (Classical.byContradiction c36))
            replace w := w.2 t37
            obtain ⟨k52, w⟩ := w
            refine ⟨fun c50 => ?_, fun c50 => ?_⟩
            · have t51 : x4 ≤ 0 := ((Jle k52 (by decide)).mp c50)
              replace w := w.1 t51
              exact w
            · have t51 : ¬ x4 ≤ 0 := (fun e => c50 ((Jle k52 (by decide)).mpr e))
              replace w := w.2 t51
              refine ⟨(rule_0 K_h_0), _, (rule_8 K_h_0), ?_⟩
              refine ⟨(rule_0 K_h_0), _, (rule_8 K_h_0), ?_⟩
              obtain ⟨k55, w⟩ := w
              refine ⟨congrArg Prod.fst (rule_4 K_h_0), ixs (rule_4 K_h_0) k55 (by decide), ?_⟩
              refine ⟨congrArg Prod.fst (rule_4 K_h_0), ixs (rule_4 K_h_0) k55 (by decide), ?_⟩
              exact w
        · have t35 : iand (aI h (a + 1) x5) 15 = 2 := ((Jeq (rg_toInt _) (by decide)).mp (Classical.byContradiction c34))
          replace w := w.2 t35
          obtain ⟨k58, w⟩ := w
          refine ⟨fun c56 => ?_, fun c56 => ?_⟩
          · have t57 : 64 ≤ x4 := ((Jle (by decide) k58).mp c56)
            replace w := w.1 t57
            exact w
          · have t57 : ¬ 64 ≤ x4 := (fun e => c56 ((Jle (by decide) k58).mpr e))
            replace w := w.2 t57
            refine ⟨(rule_0 K_h_0), _, (rule_8 K_h_0), ?_⟩
            refine ⟨fun _ => ?_, fun c60 => absurd (fun e => t21 ((Jeq (rg_toInt _) (by decide)).mp e)) c60⟩
            obtain ⟨k65, w⟩ := w
            refine m94 (h := h) (x := (shr (aI h (a + 1) x5) (iand 4 31))) C_h (by omega) k65 ?_
            refine ⟨_, rfl, ?_⟩
            try simp only [aI_wAL, fI_wAL, aL_wA, aL_wF, aI_wA_ne, aI_wF_ne, fI_wA_ne, fI_wF_ne, fI_wF_nk, aL_wAL_ne, J_sameA, J_sameF, aL_same, Nat.add_left_cancel_iff, Nat.add_eq_left, Nat.left_eq_add, not_false_eq_true, Nat.reduceEqDiff, Nat.reduceAdd, J_add, J_sub, J_mul, J_neg, J_and, J_or, J_xor, J_shl, J_shr, J_div, J_i2b, J_i2l, J_l2i, J_lcm, J_max, J_min, J_nab, J_nao, rdA, rdF, rdL, wA_fold, wF_fold, wL_fold, wC_fold]
            obtain ⟨k66, w⟩ := w
            refine ⟨congrArg Prod.fst (rule_4 K_h_0), ixs (rule_4 K_h_0) k66 (by decide), ?_⟩
            exact w
theorem q93_6 {X : Cst} {d : Nat} {a : Nat} {b e : Int} {R : Ru} {h0 : AH} {Q : Post} (C0 : Lay h0) (K0 : RuleAt h0 a) (hd : 1 ≤ d) (hb : 0 ≤ b) (he : e ≤ 400) (ha : argOK R b e) (hc : ∀ j, b ≤ j → j < e → aI h0 (a + 1) j = cm (oP R j) + 16 * aR R j) (h6 : a + 4 < 246 ∨ 246 < a)
    (k : ∀ h', Fr (fun c _ => c = a + 4) h0 h' → Q (some (.long (val R (fun k => i2l (aI h0 246 k)) b e))) h') :
    ∀ (n : Nat) (i : Int) (h : AH) (st : List Int64) (s : List Bool) (T : Bool) (l6 l7 : Option Value), Fr (fun c _ => c = a + 4) h0 h → e - i = n → b ≤ i → Stk (aL h (a + 4)) st → TV st s → tr (oP R) n i s = some [T] → s.length + nvc (oP R) n i ≤ 64 →
      ev (oP R) (aR R) (fun k => i2l (aI h0 246 k)) n i st = ev (oP R) (aR R) (fun k => i2l (aI h0 246 k)) (e - b).toNat b [] →
      Ex X PG (d + 1) 93 6 [some (.ref a), some (.int (J b)), some (.int (J e)), some (.ref 246), some (.int (J (st.length : Int))), some (.int (J i)), l6, l7] [] h Q := by
  intro n
  induction n with
  | zero =>
    intro i h st s T l6 l7 F h1 h2 sk tv ht2 hl hev
    cases ht2
    match st, tv with
    | [v], tv =>
      refine r93_6 (F.C C0) (RuleAt_SH F.1 K0) (by omega) ?_
      rw [show ((([v] : List Int64).length : Nat) : Int) = 1 from rfl]
      refine ⟨by omega, by omega, fun c => ⟨by decide, fun z => absurd z (by decide), fun _ => ⟨by decide, ?_⟩⟩, fun c => absurd (by omega) c⟩
      have s1 := sk.1
      rw [show ((([] : List Int64).length : Nat) : Int) = 0 from rfl] at s1
      rw [show (1 : Int) - 1 = 0 from rfl, s1]
      have := k _ F
      unfold val at this
      rw [← hev] at this
      exact this
  | succ n ih =>
    intro i h st s T l6 l7 F h1 h2 sk tv ht2 hl hev
    have ci := ha i h2 (by omega)
    have eci : aI h (a + 1) i = cm (oP R i) + 16 * aR R i := by rw [F.a (a + 1) (fun k z => by omega)]; exact hc i h2 (by omega)
    have wi : aI h 246 = aI h0 246 := F.a 246 (fun k z => by omega)
    unfold tr at ht2
    cases e1 : tr1 (oP R i) s with
    | none => rw [e1] at ht2; cases ht2
    | some s' =>
      rw [e1] at ht2
      have ht2 : tr (oP R) n (i + 1) s' = some [T] := ht2
      have tv' : ∀ w, TV (ev1 (oP R i) (aR R i) w st) s' := fun w => ev1_TV e1 tv
      have sl := tv.len
      have hev' : ev (oP R) (aR R) (fun k => i2l (aI h0 246 k)) n (i + 1) (ev1 (oP R i) (aR R i) (fun k => i2l (aI h0 246 k)) st) = ev (oP R) (aR R) (fun k => i2l (aI h0 246 k)) (e - b).toNat b [] := hev
      unfold nvc at hl
      have cb : 0 ≤ cm (oP R i) ∧ cm (oP R i) < 18 := by unfold cm; repeat' split <;> omega
      have cb2 : cm (oP R i) < 16 := by
        unfold tr1 at e1
        by_cases q : oP R i = 15
        · rw [q] at e1; simp at e1
        · unfold cm; repeat' split <;> omega
      have dv : iand (aI h (a + 1) i) 15 = cm (oP R i) := by rw [eci, iand_15 (by omega)]; omega
      have sv : shr (aI h (a + 1) i) (iand 4 31) = aR R i := by rw [eci, shr_4 (by omega)]; omega
      have i1 := cm_1 ci.1
      have i2 := cm_2 ci.1
      have i15 := cm_15 ci.1
      refine r93_6 (F.C C0) (RuleAt_SH F.1 K0) (by omega) ?_
      rw [dv, sv, wi]
      unfold tr1 at e1
      -- the stack becomes v :: r
      have pu : ∀ (h' : AH) (r : List Int64) (v : Int64) (l6 l7 : Option Value), Fr (fun c _ => c = a + 4) h0 h' → Stk (aL h' (a + 4)) r → (r.length : Int) < 64 → ev1 (oP R i) (aR R i) (fun k => i2l (aI h0 246 k)) st = v :: r → s'.length + nvc (oP R) n (i + 1) ≤ 64 → ∀ q, q = (r.length : Int) + 1 →
          Ex X PG (d + 1) 93 6 [some (.ref a), some (.int (J b)), some (.int (J e)), some (.ref 246), some (.int (J q)), some (.int (J (i + 1))), l6, l7] [] (wAL h' (a + 4) (r.length : Int) v) Q := by
        intro h' r v l6 l7 F' sk' hr ee hl' q hq
        have := ih (i + 1) (wAL h' (a + 4) (r.length : Int) v) (v :: r) s' T l6 l7 (F'.wAL rfl) (by omega) (by omega) ?_ ?_ ht2 hl' ?_
        · rw [List.length_cons] at this
          rw [hq]; exact this
        · rw [aL_wAL]
          exact ⟨uuL_eq _ _ _, Stk_up (Int.le_refl _) (by omega) sk'⟩
        · rw [← ee]; exact tv' _
        · rw [← ee]; exact hev'
      refine ⟨by omega, by omega, fun c => absurd c (by omega), fun c => ⟨fun z => absurd z (by omega), fun _ => ⟨by omega, fun c0 => ⟨by omega, fun z => ?_, fun _ => ⟨by omega, ?_⟩⟩, fun c0 => ⟨fun c1 => ⟨fun c11 => ⟨by omega, fun z => ?_, fun z => ?_⟩, fun c11 => ⟨by omega, fun z => ?_, fun z => ?_⟩⟩, fun c1 => ⟨by omega, fun z => ?_, fun _ => ⟨?_, by omega, ?_⟩⟩⟩⟩⟩⟩
      · rw [i1] at c0
        rw [if_pos (Or.inl c0)] at hl
        omega
      · rw [i1] at c0
        rw [if_pos (Or.inl c0)] at e1
        cases e1
        rw [if_pos (Or.inl c0)] at hl
        refine pu _ st (i2l (aR R i)) _ _ F sk (by omega) ?_ (by rw [List.length_cons]; omega) _ rfl
        unfold ev1; rw [if_pos c0]
      · -- two on the stack
        rw [i1] at c0
        rw [i2] at c1
        have c11 : ¬ oP R i = 11 := fun z => c11 (i15.mpr z)
        have two : 2 ≤ st.length := by
          rw [sl]
          rw [if_neg (fun z => z.elim c0 c1), if_neg c11] at e1
          by_cases c12 : oP R i = 12 ∨ oP R i = 13
          · rw [if_pos c12] at e1
            match s, e1 with
            | true :: true :: r, h => exact Nat.le_add_left 2 _
          · rw [if_neg c12] at e1
            by_cases c6 : 6 ≤ oP R i ∧ oP R i ≤ 10
            · rw [if_pos c6] at e1
              match s, e1 with
              | false :: false :: r, h => exact Nat.le_add_left 2 _
            · rw [if_neg c6] at e1
              by_cases c2 : (2 ≤ oP R i ∧ oP R i ≤ 5) ∨ oP R i = 14
              · rw [if_pos c2] at e1
                match s, e1 with
                | false :: false :: r, h => exact Nat.le_add_left 2 _
              · rw [if_neg c2] at e1; cases e1
        omega
      · rw [i1] at c0
        rw [i2] at c1
        have c11 : ¬ oP R i = 11 := fun z => c11 (i15.mpr z)
        have two : ∃ y x r, st = y :: x :: r ∧ s'.length = r.length + 1 ∧ (2 ≤ oP R i ∧ oP R i ≤ 14) := by
          rw [if_neg (fun z => z.elim c0 c1), if_neg c11] at e1
          by_cases c12 : oP R i = 12 ∨ oP R i = 13
          · rw [if_pos c12] at e1
            match s, st, tv, e1 with
            | true :: true :: r, y :: x :: q, v, h => cases h; exact ⟨y, x, q, rfl, by rw [List.length_cons, v.2.2.len], by omega⟩
          · rw [if_neg c12] at e1
            by_cases c6 : 6 ≤ oP R i ∧ oP R i ≤ 10
            · rw [if_pos c6] at e1
              match s, st, tv, e1 with
              | false :: false :: r, y :: x :: q, v, h => cases h; exact ⟨y, x, q, rfl, by rw [List.length_cons, v.2.2.len], by omega⟩
            · rw [if_neg c6] at e1
              by_cases c2 : (2 ≤ oP R i ∧ oP R i ≤ 5) ∨ oP R i = 14
              · rw [if_pos c2] at e1
                match s, st, tv, e1 with
                | false :: false :: r, y :: x :: q, v, h => cases h; exact ⟨y, x, q, rfl, by rw [List.length_cons, v.2.2.len], by omega⟩
              · rw [if_neg c2] at e1; cases e1
        obtain ⟨y, x, r, rfl, sl', ob⟩ := two
        rw [List.length_cons, List.length_cons] at sl
        have s1 : aL h (a + 4) ((r.length : Int) + 1) = y := by have := sk.1; rw [List.length_cons] at this; exact this
        have s2 : aL h (a + 4) (r.length : Int) = x := sk.2.1
        have l1 : (((y :: x :: r).length : Nat) : Int) + (-1) = (r.length : Int) + 1 := by rw [List.length_cons, List.length_cons]; omega
        rw [l1, show (r.length : Int) + 1 - 1 = r.length by omega, s1, s2]
        refine ⟨by omega, by omega, ?_⟩
        refine m95 (F.C C0) (by omega) ⟨ob.1, ob.2, c11⟩ ⟨_, rfl, SH.rf, ?_⟩
        refine pu _ r (opL (oP R i) x y) _ _ F sk.2.2 (by omega) ?_ ?_ _ rfl
        · unfold ev1; rw [if_neg c0, if_neg c1, if_neg c11]
        · rw [if_neg (fun z => z.elim c0 c1)] at hl; omega
      · rw [i1] at c0
        rw [i2] at c1
        have c11 : oP R i = 11 := i15.mp c11
        rw [if_neg (fun z => z.elim c0 c1), if_pos c11] at e1
        match s, e1 with
        | true :: r, h => rw [List.length_cons] at sl; omega
      · rw [i1] at c0
        rw [i2] at c1
        have c11 : oP R i = 11 := i15.mp c11
        have two : ∃ x r, st = x :: r ∧ s'.length = r.length + 1 := by
          rw [if_neg (fun z => z.elim c0 c1), if_pos c11] at e1
          match s, st, tv, e1 with
          | true :: r, x :: q, v, h => cases h; exact ⟨x, q, rfl, by rw [List.length_cons, v.2.len]⟩
        obtain ⟨x, r, rfl, sl'⟩ := two
        rw [List.length_cons] at sl
        have s1 : aL h (a + 4) (r.length : Int) = x := sk.1
        have l1 : (((x :: r).length : Nat) : Int) - 1 = (r.length : Int) := by rw [List.length_cons]; omega
        rw [l1, s1]
        refine ⟨by omega, ?_⟩
        refine pu _ r (1 - x) _ _ F sk.2 (by omega) ?_ ?_ _ (by rw [List.length_cons]; omega)
        · unfold ev1; rw [if_neg c0, if_neg c1, if_pos c11]
        · rw [if_neg (fun z => z.elim c0 c1)] at hl; omega
      · rw [i2] at c1
        rw [if_pos (Or.inr c1)] at hl
        omega
      · rw [i2] at c1
        have := ci.2.2 c1
        omega
      · rw [i2] at c1
        rw [i1] at c0
        rw [if_pos (Or.inr c1)] at e1
        cases e1
        rw [if_pos (Or.inr c1)] at hl
        refine pu _ st (i2l (aI h0 246 (aR R i))) _ _ F sk (by omega) ?_ (by rw [List.length_cons]; omega) _ rfl
        unfold ev1; rw [if_neg c0, if_pos c1]
