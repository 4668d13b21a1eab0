/-! RULES: what a code reckons. -/
-- OutwardDoorsModel.push(J)V at 0
set_option maxRecDepth 20000 in
set_option maxHeartbeats 4000000 in
theorem r240_0 {X : Cst} {d : Nat} {x1 : Int64} {h : AH} {Q : Post} (C_h : Lay h)
  (w : (0 ≤ fI h 256 18 ∧ fI h 256 18 < 64) ∧ Q none (wF (wAL h 264 (fI h 256 18) x1) 256 18 ((fI h 256 18) + 1))) :
    Ex X PG (d + 1) 240 0 [some (.ref 256), some (.long x1), none] [] h Q := by
  refine wpx_ok (cut := []) 13 d 240 0 _ _ _ _ ?_
  show hs h 256 = (0, 11) ∧ ∃ q1, hR h 256 17 = some q1 ∧ hs h 256 = (0, 11) ∧ (hs h q1).1 = 2 ∧ ix (hF h 256 18) (hs h q1).2 ∧ hs (wL h q1 (Int32.toNatClampNeg (hF h 256 18)) x1) 256 = (0, 11) ∧ hs (wL h q1 (Int32.toNatClampNeg (hF h 256 18)) x1) 256 = (0, 11) ∧ Q none (wG (wL h q1 (Int32.toNatClampNeg (hF h 256 18)) x1) 256 18 ((hF (wL h q1 (Int32.toNatClampNeg (hF h 256 18)) x1) 256 18) + (J 1)))
  try simp only [aI_wAL, fI_wAL, aL_wA, aL_wF, aI_wA_ne, aI_wF_ne, fI_wA_ne, fI_wF_ne, fI_wF_nk, aL_wAL_ne, J_sameA, J_sameF, aL_same, Nat.add_left_cancel_iff, Nat.add_eq_left, Nat.left_eq_add, not_false_eq_true, Nat.reduceEqDiff, Nat.reduceAdd, J_add, J_sub, J_mul, J_neg, J_and, J_or, J_xor, J_shl, J_shr, J_div, J_i2b, J_i2l, J_l2i, J_lcm, J_max, J_min, J_nab, J_nao, rdA, rdF, rdL, wA_fold, wF_fold, wL_fold, wC_fold]
  refine ⟨(ls256 C_h), _, (lr256_17 C_h), ?_⟩
  refine ⟨(ls256 C_h), ?_⟩
  obtain ⟨k2, w⟩ := w
  refine ⟨congrArg Prod.fst (ls264 C_h), ixs (ls264 C_h) k2 (by decide), ?_⟩
  refine ⟨(ls256 C_h), ?_⟩
  refine ⟨(ls256 C_h), ?_⟩
  exact w
theorem m240 {X : Cst} {d : Nat} {v : Int64} {h : AH} {Q : Post} (C : Lay h) (hd : 1 ≤ d) (c : 0 ≤ fI h 256 18 ∧ fI h 256 18 < 64) (k : Q none (wF (wAL h 264 (fI h 256 18) v) 256 18 (fI h 256 18 + 1))) : Ex X PG d 240 0 [some (.ref 256), some (.long v), none] [] h Q := by
  obtain ⟨d, rfl⟩ : ∃ e, d = e + 1 := ⟨d - 1, by omega⟩
  exact r240_0 C ⟨c, k⟩
-- OutwardDoorsModel.pop()J at 0
set_option maxRecDepth 20000 in
set_option maxHeartbeats 4000000 in
theorem r241_0 {X : Cst} {d : Nat}  {h : AH} {Q : Post} (C_h : Lay h)
  (w : (0 ≤ (fI h 256 18) - 1 ∧ (fI h 256 18) - 1 < 64) ∧ Q (some (.long (aL h 264 ((fI h 256 18) - 1)))) (wF h 256 18 ((fI h 256 18) - 1))) :
    Ex X PG (d + 1) 241 0 [some (.ref 256)] [] h Q := by
  refine wpx_ok (cut := []) 12 d 241 0 _ _ _ _ ?_
  show hs h 256 = (0, 11) ∧ hs h 256 = (0, 11) ∧ hs (wG h 256 18 ((hF h 256 18) - (J 1))) 256 = (0, 11) ∧ ∃ q1, hR (wG h 256 18 ((hF h 256 18) - (J 1))) 256 17 = some q1 ∧ hs (wG h 256 18 ((hF h 256 18) - (J 1))) 256 = (0, 11) ∧ (hs (wG h 256 18 ((hF h 256 18) - (J 1))) q1).1 = 2 ∧ ix (hF (wG h 256 18 ((hF h 256 18) - (J 1))) 256 18) (hs (wG h 256 18 ((hF h 256 18) - (J 1))) q1).2 ∧ Q (some (.long (hL (wG h 256 18 ((hF h 256 18) - (J 1))) q1 (Int32.toNatClampNeg (hF (wG h 256 18 ((hF h 256 18) - (J 1))) 256 18))))) (wG h 256 18 ((hF h 256 18) - (J 1)))
  try simp only [aI_wAL, fI_wAL, aL_wA, aL_wF, aI_wA_ne, aI_wF_ne, fI_wA_ne, fI_wF_ne, fI_wF_nk, aL_wAL_ne, J_sameA, J_sameF, aL_same, Nat.add_left_cancel_iff, Nat.add_eq_left, Nat.left_eq_add, not_false_eq_true, Nat.reduceEqDiff, Nat.reduceAdd, J_add, J_sub, J_mul, J_neg, J_and, J_or, J_xor, J_shl, J_shr, J_div, J_i2b, J_i2l, J_l2i, J_lcm, J_max, J_min, J_nab, J_nao, rdA, rdF, rdL, wA_fold, wF_fold, wL_fold, wC_fold]
  refine ⟨(ls256 C_h), ?_⟩
  refine ⟨(ls256 C_h), ?_⟩
  refine ⟨(ls256 C_h), _, (lr256_17 C_h), ?_⟩
  refine ⟨(ls256 C_h), ?_⟩
  obtain ⟨k2, w⟩ := w
  refine ⟨congrArg Prod.fst (ls264 C_h), ixs (ls264 C_h) k2 (by decide), ?_⟩
  try simp only [aI_wAL, fI_wAL, aL_wA, aL_wF, aI_wA_ne, aI_wF_ne, fI_wA_ne, fI_wF_ne, fI_wF_nk, aL_wAL_ne, J_sameA, J_sameF, aL_same, Nat.add_left_cancel_iff, Nat.add_eq_left, Nat.left_eq_add, not_false_eq_true, Nat.reduceEqDiff, Nat.reduceAdd]
  exact w
theorem m241 {X : Cst} {d : Nat} {h : AH} {Q : Post} (C : Lay h) (hd : 1 ≤ d) (c : 0 ≤ fI h 256 18 - 1 ∧ fI h 256 18 - 1 < 64) (k : Q (some (.long (aL h 264 (fI h 256 18 - 1)))) (wF h 256 18 (fI h 256 18 - 1))) : Ex X PG d 241 0 [some (.ref 256)] [] h Q := by
  obtain ⟨d, rfl⟩ : ∃ e, d = e + 1 := ⟨d - 1, by omega⟩
  exact r241_0 C ⟨c, k⟩
theorem Int64_tri (x y : Int64) : x < y ∨ x = y ∨ y < x := by
  rw [Int64.lt_iff_toInt_lt, Int64.lt_iff_toInt_lt]
  have : x.toInt = y.toInt → x = y := Int64.toInt.inj
  by_cases a : x.toInt < y.toInt
  · exact Or.inl a
  · by_cases b : y.toInt < x.toInt
    · exact Or.inr (Or.inr b)
    · exact Or.inr (Or.inl (this (by omega)))
theorem lcm_cases (x y : Int64) : (x < y ∧ lcm x y = -1) ∨ (x = y ∧ lcm x y = 0) ∨ (y < x ∧ lcm x y = 1) := by
  unfold lcm lg_cmp
  rcases Int64_tri x y with h | h | h
  · have a : ¬ x > y := by
      intro g
      have g : y < x := g
      rw [Int64.lt_iff_toInt_lt] at h g
      omega
    have b : ¬ x = y := by
      intro e; subst e
      rw [Int64.lt_iff_toInt_lt] at h
      omega
    rw [if_neg a, if_neg b]
    exact Or.inl ⟨h, by decide⟩
  · subst h
    have a : ¬ x > x := by
      intro g
      have g : x < x := g
      rw [Int64.lt_iff_toInt_lt] at g
      omega
    rw [if_neg a, if_pos rfl]
    exact Or.inr (Or.inl ⟨rfl, by decide⟩)
  · rw [if_pos h]
    exact Or.inr (Or.inr ⟨h, by decide⟩)
theorem lcm_lt0 {x y : Int64} : lcm x y < 0 ↔ x < y := by
  have no : x < y → ¬ y < x := fun a b => by rw [Int64.lt_iff_toInt_lt] at a b; omega
  rcases lcm_cases x y with ⟨h, e⟩ | ⟨h, e⟩ | ⟨h, e⟩ <;> rw [e]
  · exact ⟨fun _ => h, fun _ => by decide⟩
  · subst h; exact ⟨fun z => absurd z (by decide), fun z => absurd z (no z)⟩
  · exact ⟨fun z => absurd z (by decide), fun z => absurd h (no z)⟩
theorem lcm_gt0 {x y : Int64} : 0 < lcm x y ↔ y < x := by
  have no : x < y → ¬ y < x := fun a b => by rw [Int64.lt_iff_toInt_lt] at a b; omega
  rcases lcm_cases x y with ⟨h, e⟩ | ⟨h, e⟩ | ⟨h, e⟩ <;> rw [e]
  · exact ⟨fun z => absurd z (by decide), fun z => absurd z (no h)⟩
  · subst h; exact ⟨fun z => absurd z (by decide), fun z => absurd z (no z)⟩
  · exact ⟨fun _ => h, fun _ => by decide⟩
theorem lcm_eq0 {x y : Int64} : lcm x y = 0 ↔ x = y := by
  have no : x < y → ¬ x = y := fun a b => by subst b; rw [Int64.lt_iff_toInt_lt] at a; omega
  have no2 : y < x → ¬ x = y := fun a b => by subst b; rw [Int64.lt_iff_toInt_lt] at a; omega
  rcases lcm_cases x y with ⟨h, e⟩ | ⟨h, e⟩ | ⟨h, e⟩ <;> rw [e]
  · exact ⟨fun z => absurd z (by decide), fun z => absurd z (no h)⟩
  · exact ⟨fun _ => h, fun _ => by decide⟩
  · exact ⟨fun z => absurd z (by decide), fun z => absurd z (no2 h)⟩
/-- truth as a long -/
noncomputable def bL (P : Prop) : Int64 := @ite Int64 P (Classical.propDecidable P) 1 0
theorem bL_pos {P : Prop} (h : P) : bL P = 1 := by unfold bL; exact if_pos h
theorem bL_neg {P : Prop} (h : ¬ P) : bL P = 0 := by unfold bL; exact if_neg h
theorem bL_or (P : Prop) : bL P = 0 ∨ bL P = 1 := by
  by_cases h : P
  · exact Or.inr (bL_pos h)
  · exact Or.inl (bL_neg h)
noncomputable def opL (o : Int) (x y : Int64) : Int64 :=
  if o = 2 then x + y else if o = 3 then x - y else if o = 4 then x * y else if o = 5 then (if y = 0 then 0 else x / y)
  else if o = 6 then bL (x < y) else if o = 7 then bL (¬ y < x) else if o = 8 then bL (x = y) else if o = 9 then bL (¬ x < y) else if o = 10 then bL (y < x)
  else if o = 12 then x &&& y else if o = 14 then (if y = 0 then 0 else x - x / y * y) else x ||| y
-- OutwardDoorsModel.one(IJJ)J at 0
set_option maxRecDepth 20000 in
set_option maxHeartbeats 4000000 in
theorem r242_0 {X : Cst} {d : Nat} {x0 : Int} {x1 : Int64} {x3 : Int64} {h : AH} {Q : Post} (C_h : Lay h)
  (w : (-2147483648 ≤ x0 ∧ x0 < 2147483648) ∧ ((x0 = 2 → Q (some (.long (x1 + x3))) h) ∧ (¬ x0 = 2 → ((x0 = 3 → Q (some (.long (x1 - x3))) h) ∧ (¬ x0 = 3 → ((x0 = 4 → Q (some (.long (x1 * x3))) h) ∧ (¬ x0 = 4 → ((x0 = 5 → ((¬ lcm x3 (0 : Int64) = 0 → ¬ x3 = 0 ∧ Q (some (.long (x1 / x3))) h) ∧ (lcm x3 (0 : Int64) = 0 → Q (some (.long (0 : Int64))) h))) ∧ (¬ x0 = 5 → ((x0 = 6 → ((0 ≤ lcm x1 x3 → Q (some (.long (0 : Int64))) h) ∧ (¬ 0 ≤ lcm x1 x3 → Q (some (.long (1 : Int64))) h))) ∧ (¬ x0 = 6 → ((x0 = 7 → ((0 < lcm x1 x3 → Q (some (.long (0 : Int64))) h) ∧ (¬ 0 < lcm x1 x3 → Q (some (.long (1 : Int64))) h))) ∧ (¬ x0 = 7 → ((x0 = 8 → ((¬ lcm x1 x3 = 0 → Q (some (.long (0 : Int64))) h) ∧ (lcm x1 x3 = 0 → Q (some (.long (1 : Int64))) h))) ∧ (¬ x0 = 8 → ((x0 = 9 → ((lcm x1 x3 < 0 → Q (some (.long (0 : Int64))) h) ∧ (¬ lcm x1 x3 < 0 → Q (some (.long (1 : Int64))) h))) ∧ (¬ x0 = 9 → ((x0 = 10 → ((lcm x1 x3 ≤ 0 → Q (some (.long (0 : Int64))) h) ∧ (¬ lcm x1 x3 ≤ 0 → Q (some (.long (1 : Int64))) h))) ∧ (¬ x0 = 10 → ((x0 = 11 → Q (some (.long (x1 ||| x3))) h) ∧ (¬ x0 = 11 → ((x0 = 12 → Q (some (.long (x1 &&& x3))) h) ∧ (¬ x0 = 12 → ((x0 = 13 → Q (some (.long (x1 ||| x3))) h) ∧ (¬ x0 = 13 → ((x0 = 14 → ((¬ lcm x3 (0 : Int64) = 0 → ¬ x3 = 0 ∧ Q (some (.long (x1 - x1 / x3 * x3))) h) ∧ (lcm x3 (0 : Int64) = 0 → Q (some (.long (0 : Int64))) h))) ∧ (¬ x0 = 14 → Q (some (.long (x1 ||| x3))) h))))))))))))))))))))))))))) :
    Ex X PG (d + 1) 242 0 [some (.int (J x0)), some (.long x1), none, some (.long x3), none] [] h Q := by
  refine wpx_ok (cut := []) 10 d 242 0 _ _ _ _ ?_
  show (((J x0) = J 2 → Q (some (.long (x1 + x3))) h) ∧ (¬ (J x0) = J 2 → (((J x0) = J 3 → Q (some (.long (x1 - x3))) h) ∧ (¬ (J x0) = J 3 → (((J x0) = J 4 → Q (some (.long (x1 * x3))) h) ∧ (¬ (J x0) = J 4 → (((J x0) = J 5 → ((¬ (lg_cmp x3 (0 : Int64)) = (J 0) → ¬ x3 = 0 ∧ Q (some (.long (x1 / x3))) h) ∧ (¬ (¬ (lg_cmp x3 (0 : Int64)) = (J 0)) → Q (some (.long (0 : Int64))) h))) ∧ (¬ (J x0) = J 5 → (((J x0) = J 6 → (((J 0) ≤ (lg_cmp x1 x3) → Q (some (.long (0 : Int64))) h) ∧ (¬ ((J 0) ≤ (lg_cmp x1 x3)) → Q (some (.long (1 : Int64))) h))) ∧ (¬ (J x0) = J 6 → (((J x0) = J 7 → (((J 0) < (lg_cmp x1 x3) → Q (some (.long (0 : Int64))) h) ∧ (¬ ((J 0) < (lg_cmp x1 x3)) → Q (some (.long (1 : Int64))) h))) ∧ (¬ (J x0) = J 7 → (((J x0) = J 8 → ((¬ (lg_cmp x1 x3) = (J 0) → Q (some (.long (0 : Int64))) h) ∧ (¬ (¬ (lg_cmp x1 x3) = (J 0)) → Q (some (.long (1 : Int64))) h))) ∧ (¬ (J x0) = J 8 → (((J x0) = J 9 → (((lg_cmp x1 x3) < (J 0) → Q (some (.long (0 : Int64))) h) ∧ (¬ ((lg_cmp x1 x3) < (J 0)) → Q (some (.long (1 : Int64))) h))) ∧ (¬ (J x0) = J 9 → (((J x0) = J 10 → (((lg_cmp x1 x3) ≤ (J 0) → Q (some (.long (0 : Int64))) h) ∧ (¬ ((lg_cmp x1 x3) ≤ (J 0)) → Q (some (.long (1 : Int64))) h))) ∧ (¬ (J x0) = J 10 → (((J x0) = J 11 → Q (some (.long (x1 ||| x3))) h) ∧ (¬ (J x0) = J 11 → (((J x0) = J 12 → Q (some (.long (x1 &&& x3))) h) ∧ (¬ (J x0) = J 12 → (((J x0) = J 13 → Q (some (.long (x1 ||| x3))) h) ∧ (¬ (J x0) = J 13 → (((J x0) = J 14 → ((¬ (lg_cmp x3 (0 : Int64)) = (J 0) → ¬ x3 = 0 ∧ Q (some (.long (x1 - x1 / x3 * x3))) h) ∧ (¬ (¬ (lg_cmp x3 (0 : Int64)) = (J 0)) → Q (some (.long (0 : Int64))) h))) ∧ (¬ (J x0) = J 14 → Q (some (.long (x1 ||| x3))) h))))))))))))))))))))))))))
  try simp only [aI_wAL, fI_wAL, aL_wA, aL_wF, aI_wA_ne, aI_wF_ne, fI_wA_ne, fI_wF_ne, fI_wF_nk, aL_wAL_ne, J_sameA, J_sameF, aL_same, Nat.add_left_cancel_iff, Nat.add_eq_left, Nat.left_eq_add, not_false_eq_true, Nat.reduceEqDiff, Nat.reduceAdd, J_add, J_sub, J_mul, J_neg, J_and, J_or, J_xor, J_shl, J_shr, J_div, J_i2b, J_i2l, J_l2i, J_lcm, J_max, J_min, J_nab, J_nao, rdA, rdF, rdL, wA_fold, wF_fold, wL_fold, wC_fold]
  obtain ⟨k1, w⟩ := w
  refine ⟨fun c2 => ?_, fun c2 => ?_⟩
  · replace w := w.1 ((Jeq k1 (by decide)).mp c2)
    exact w
  · replace w := w.2 (fun e => c2 ((Jeq k1 (by decide)).mpr e))
    refine ⟨fun c3 => ?_, fun c3 => ?_⟩
    · replace w := w.1 ((Jeq k1 (by decide)).mp c3)
      exact w
    · replace w := w.2 (fun e => c3 ((Jeq k1 (by decide)).mpr e))
      refine ⟨fun c4 => ?_, fun c4 => ?_⟩
      · replace w := w.1 ((Jeq k1 (by decide)).mp c4)
        exact w
      · replace w := w.2 (fun e => c4 ((Jeq k1 (by decide)).mpr e))
        refine ⟨fun c8 => ?_, fun c8 => ?_⟩
        · replace w := w.1 ((Jeq k1 (by decide)).mp c8)
          refine ⟨fun c5 => ?_, fun c5 => ?_⟩
          · have t6 : ¬ lcm x3 (0 : Int64) = 0 := (fun e => c5 ((Jeq (rg_toInt _) (by decide)).mpr e))
            replace w := w.1 t6
            obtain ⟨k7, w⟩ := w
            refine ⟨k7, ?_⟩
            exact w
          · have t6 : lcm x3 (0 : Int64) = 0 := ((Jeq (rg_toInt _) (by decide)).mp (Classical.byContradiction c5))
            replace w := w.2 t6
            exact w
        · replace w := w.2 (fun e => c8 ((Jeq k1 (by decide)).mpr e))
          refine ⟨fun c11 => ?_, fun c11 => ?_⟩
          · replace w := w.1 ((Jeq k1 (by decide)).mp c11)
            refine ⟨fun c9 => ?_, fun c9 => ?_⟩
            · have t10 : 0 ≤ lcm x1 x3 := ((Jle (by decide) (rg_toInt _)).mp c9)
              replace w := w.1 t10
              exact w
            · have t10 : ¬ 0 ≤ lcm x1 x3 := (fun e => c9 ((Jle (by decide) (rg_toInt _)).mpr e))
              replace w := w.2 t10
              exact w
          · replace w := w.2 (fun e => c11 ((Jeq k1 (by decide)).mpr e))
            refine ⟨fun c14 => ?_, fun c14 => ?_⟩
            · replace w := w.1 ((Jeq k1 (by decide)).mp c14)
              refine ⟨fun c12 => ?_, fun c12 => ?_⟩
              · have t13 : 0 < lcm x1 x3 := ((Jlt (by decide) (rg_toInt _)).mp c12)
                replace w := w.1 t13
                exact w
              · have t13 : ¬ 0 < lcm x1 x3 := (fun e => c12 ((Jlt (by decide) (rg_toInt _)).mpr e))
                replace w := w.2 t13
                exact w
            · replace w := w.2 (fun e => c14 ((Jeq k1 (by decide)).mpr e))
              refine ⟨fun c17 => ?_, fun c17 => ?_⟩
              · replace w := w.1 ((Jeq k1 (by decide)).mp c17)
                refine ⟨fun c15 => ?_, fun c15 => ?_⟩
                · have t16 : ¬ lcm x1 x3 = 0 := (fun e => c15 ((Jeq (rg_toInt _) (by decide)).mpr e))
                  replace w := w.1 t16
                  exact w
                · have t16 : lcm x1 x3 = 0 := ((Jeq (rg_toInt _) (by decide)).mp (Classical.byContradiction c15))
                  replace w := w.2 t16
                  exact w
              · replace w := w.2 (fun e => c17 ((Jeq k1 (by decide)).mpr e))
                refine ⟨fun c20 => ?_, fun c20 => ?_⟩
                · replace w := w.1 ((Jeq k1 (by decide)).mp c20)
                  refine ⟨fun c18 => ?_, fun c18 => ?_⟩
                  · have t19 : lcm x1 x3 < 0 := ((Jlt (rg_toInt _) (by decide)).mp c18)
                    replace w := w.1 t19
                    exact w
                  · have t19 : ¬ lcm x1 x3 < 0 := (fun e => c18 ((Jlt (rg_toInt _) (by decide)).mpr e))
                    replace w := w.2 t19
                    exact w
                · replace w := w.2 (fun e => c20 ((Jeq k1 (by decide)).mpr e))
                  refine ⟨fun c23 => ?_, fun c23 => ?_⟩
                  · replace w := w.1 ((Jeq k1 (by decide)).mp c23)
                    refine ⟨fun c21 => ?_, fun c21 => ?_⟩
                    · have t22 : lcm x1 x3 ≤ 0 := ((Jle (rg_toInt _) (by decide)).mp c21)
                      replace w := w.1 t22
                      exact w
                    · have t22 : ¬ lcm x1 x3 ≤ 0 := (fun e => c21 ((Jle (rg_toInt _) (by decide)).mpr e))
                      replace w := w.2 t22
                      exact w
                  · replace w := w.2 (fun e => c23 ((Jeq k1 (by decide)).mpr e))
                    refine ⟨fun c24 => ?_, fun c24 => ?_⟩
                    · replace w := w.1 ((Jeq k1 (by decide)).mp c24)
                      exact w
                    · replace w := w.2 (fun e => c24 ((Jeq k1 (by decide)).mpr e))
                      refine ⟨fun c25 => ?_, fun c25 => ?_⟩
                      · replace w := w.1 ((Jeq k1 (by decide)).mp c25)
                        exact w
                      · replace w := w.2 (fun e => c25 ((Jeq k1 (by decide)).mpr e))
                        refine ⟨fun c26 => ?_, fun c26 => ?_⟩
                        · replace w := w.1 ((Jeq k1 (by decide)).mp c26)
                          exact w
                        · replace w := w.2 (fun e => c26 ((Jeq k1 (by decide)).mpr e))
                          refine ⟨fun c30 => ?_, fun c30 => ?_⟩
                          · replace w := w.1 ((Jeq k1 (by decide)).mp c30)
                            refine ⟨fun c27 => ?_, fun c27 => ?_⟩
                            · have t28 : ¬ lcm x3 (0 : Int64) = 0 := (fun e => c27 ((Jeq (rg_toInt _) (by decide)).mpr e))
                              replace w := w.1 t28
                              obtain ⟨k29, w⟩ := w
                              refine ⟨k29, ?_⟩
                              exact w
                            · have t28 : lcm x3 (0 : Int64) = 0 := ((Jeq (rg_toInt _) (by decide)).mp (Classical.byContradiction c27))
                              replace w := w.2 t28
                              exact w
                          · replace w := w.2 (fun e => c30 ((Jeq k1 (by decide)).mpr e))
                            exact w
theorem m242 {X : Cst} {d : Nat} {o : Int} {x y : Int64} {h : AH} {Q : Post} (C : Lay h) (hd : 1 ≤ d) (g : -2147483648 ≤ o ∧ o < 2147483648) (k : Q (some (.long (opL o x y))) h) : Ex X PG d 242 0 [some (.int (J o)), some (.long x), none, some (.long y), none] [] h Q := by
  obtain ⟨d, rfl⟩ : ∃ e, d = e + 1 := ⟨d - 1, by omega⟩
  unfold opL at k
  refine r242_0 C ⟨g, ?_⟩
  refine ⟨fun c => ?_, fun c2 => ⟨fun c => ?_, fun c3 => ⟨fun c => ?_, fun c4 => ⟨fun c => ⟨fun e => ⟨fun z => e (lcm_eq0.mpr z), ?_⟩, fun e => ?_⟩, fun c5 => ⟨fun c => ⟨fun e => ?_, fun e => ?_⟩, fun c6 => ⟨fun c => ⟨fun e => ?_, fun e => ?_⟩, fun c7 => ⟨fun c => ⟨fun e => ?_, fun e => ?_⟩, fun c8 => ⟨fun c => ⟨fun e => ?_, fun e => ?_⟩, fun c9 => ⟨fun c => ⟨fun e => ?_, fun e => ?_⟩, fun c10 => ⟨fun c => ?_, fun c11 => ⟨fun c => ?_, fun c12 => ⟨fun c => ?_, fun c13 => ⟨fun c => ⟨fun e => ⟨fun z => e (lcm_eq0.mpr z), ?_⟩, fun e => ?_⟩, fun c14 => ?_⟩⟩⟩⟩⟩⟩⟩⟩⟩⟩⟩⟩⟩
  · rw [if_pos c] at k; exact k
  · rw [if_neg c2, if_pos c] at k; exact k
  · rw [if_neg c2, if_neg c3, if_pos c] at k; exact k
  · rw [if_neg c2, if_neg c3, if_neg c4, if_pos c, if_neg (fun z => e (lcm_eq0.mpr z))] at k; exact k
  · rw [if_neg c2, if_neg c3, if_neg c4, if_pos c, if_pos (lcm_eq0.mp e)] at k; exact k
  · rw [if_neg c2, if_neg c3, if_neg c4, if_neg c5, if_pos c, bL_neg (fun z => by have := lcm_lt0.mpr z; omega)] at k; exact k
  · rw [if_neg c2, if_neg c3, if_neg c4, if_neg c5, if_pos c, bL_pos (lcm_lt0.mp (by omega))] at k; exact k
  · rw [if_neg c2, if_neg c3, if_neg c4, if_neg c5, if_neg c6, if_pos c, bL_neg (fun z => z (lcm_gt0.mp e))] at k; exact k
  · rw [if_neg c2, if_neg c3, if_neg c4, if_neg c5, if_neg c6, if_pos c, bL_pos (fun z => e (lcm_gt0.mpr z))] at k; exact k
  · rw [if_neg c2, if_neg c3, if_neg c4, if_neg c5, if_neg c6, if_neg c7, if_pos c, bL_neg (fun z => e (lcm_eq0.mpr z))] at k; exact k
  · rw [if_neg c2, if_neg c3, if_neg c4, if_neg c5, if_neg c6, if_neg c7, if_pos c, bL_pos (lcm_eq0.mp e)] at k; exact k
  · rw [if_neg c2, if_neg c3, if_neg c4, if_neg c5, if_neg c6, if_neg c7, if_neg c8, if_pos c, bL_neg (fun z => z (lcm_lt0.mp e))] at k; exact k
  · rw [if_neg c2, if_neg c3, if_neg c4, if_neg c5, if_neg c6, if_neg c7, if_neg c8, if_pos c, bL_pos (fun z => e (lcm_lt0.mpr z))] at k; exact k
  · rw [if_neg c2, if_neg c3, if_neg c4, if_neg c5, if_neg c6, if_neg c7, if_neg c8, if_neg c9, if_pos c, bL_neg (fun z => by have := lcm_gt0.mpr z; omega)] at k; exact k
  · rw [if_neg c2, if_neg c3, if_neg c4, if_neg c5, if_neg c6, if_neg c7, if_neg c8, if_neg c9, if_pos c, bL_pos (lcm_gt0.mp (by omega))] at k; exact k
  · rw [if_neg c2, if_neg c3, if_neg c4, if_neg c5, if_neg c6, if_neg c7, if_neg c8, if_neg c9, if_neg c10, if_neg (by omega), if_neg (by omega)] at k; exact k
  · rw [if_neg c2, if_neg c3, if_neg c4, if_neg c5, if_neg c6, if_neg c7, if_neg c8, if_neg c9, if_neg c10, if_pos c] at k; exact k
  · rw [if_neg c2, if_neg c3, if_neg c4, if_neg c5, if_neg c6, if_neg c7, if_neg c8, if_neg c9, if_neg c10, if_neg c12, if_neg (by omega)] at k; exact k
  · rw [if_neg c2, if_neg c3, if_neg c4, if_neg c5, if_neg c6, if_neg c7, if_neg c8, if_neg c9, if_neg c10, if_neg c12, if_pos c, if_neg (fun z => e (lcm_eq0.mpr z))] at k; exact k
  · rw [if_neg c2, if_neg c3, if_neg c4, if_neg c5, if_neg c6, if_neg c7, if_neg c8, if_neg c9, if_neg c10, if_neg c12, if_pos c, if_pos (lcm_eq0.mp e)] at k; exact k
  · rw [if_neg c2, if_neg c3, if_neg c4, if_neg c5, if_neg c6, if_neg c7, if_neg c8, if_neg c9, if_neg c10, if_neg c12, if_neg c14] at k; exact k
/-- what is on the stack, by kinds: true is a fact (0 or 1) -/
def tr1 (o : Int) (s : List Bool) : Option (List Bool) :=
  if o = 0 ∨ o = 1 then some (false :: s)
  else if o = 11 then (match s with | true :: r => some (true :: r) | _ => none)
  else if o = 12 ∨ o = 13 then (match s with | true :: true :: r => some (true :: r) | _ => none)
  else if 6 ≤ o ∧ o ≤ 10 then (match s with | false :: false :: r => some (true :: r) | _ => none)
  else if (2 ≤ o ∧ o ≤ 5) ∨ o = 14 then (match s with | false :: false :: r => some (false :: r) | _ => none)
  else none
def tr (op : Int → Int) : Nat → Int → List Bool → Option (List Bool)
  | 0, _, s => some s
  | n + 1, i, s => match tr1 (op i) s with
    | some s' => tr op n (i + 1) s'
    | none => none
noncomputable def ev1 (o a : Int) (w : Int → Int64) (st : List Int64) : List Int64 :=
  if o = 0 then i2l a :: st else if o = 1 then w a :: st
  else if o = 11 then (match st with | x :: r => (1 - x) :: r | [] => [])
  else (match st with | y :: x :: r => opL o x y :: r | r => r)
noncomputable def ev (op ar : Int → Int) (w : Int → Int64) : Nat → Int → List Int64 → List Int64
  | 0, _, st => st
  | n + 1, i, st => ev op ar w n (i + 1) (ev1 (op i) (ar i) w st)
/-- how many values are put -/
def nvc (op : Int → Int) : Nat → Int → Nat
  | 0, _ => 0
  | n + 1, i => (if op i = 0 ∨ op i = 1 then 1 else 0) + nvc op n (i + 1)
def TV : List Int64 → List Bool → Prop
  | [], [] => True
  | x :: r, b :: s => (b = true → x = 0 ∨ x = 1) ∧ TV r s
  | _, _ => False
theorem TV.len {st : List Int64} {s : List Bool} (h : TV st s) : st.length = s.length := by
  induction st generalizing s with
  | nil => cases s with
    | nil => rfl
    | cons => exact h.elim
  | cons x r ih => cases s with
    | nil => exact h.elim
    | cons b s => rw [List.length_cons, List.length_cons, ih h.2]
