/-! THE REFERENCE: images. -/
-- OutwardDoorsModel.image(I)I at 0
set_option maxRecDepth 20000 in
set_option maxHeartbeats 4000000 in
theorem r288_0 {X : Cst} {d : Nat} {x1 : Int} {h : AH} {Q : Post} (C_h : Lay h) (hd : 1 ≤ d)
  (w : (-2147483648 ≤ x1 ∧ x1 < 2147483648) ∧ (((0 ≤ x1 ∧ x1 ≤ 3) → (0 ≤ x1 ∧ x1 < 4) ∧ Ex X PG (d + 1) 288 43 [some (.ref 256), some (.int (J x1)), some (.int (J 0))] [] (wA (wA (wA h 280 x1 (nao 1)) 278 x1 (fI h 256 21)) 279 x1 (fI h 256 22)) Q) ∧ (¬ (0 ≤ x1 ∧ x1 ≤ 3) → Q (some (.int (J (-1)))) h))) :
    Ex X PG (d + 1) 288 0 [some (.ref 256), some (.int (J x1)), none] [] h Q := by
  refine wpx_ok (cut := [43]) 25 d 288 0 _ _ _ _ ?_
  show Ex X PG d 186 0 [some (.long (Int32.toInt64 (J x1))), none, some (.long (0 : Int64)), none, some (.long (3 : Int64)), none] [] h (fun v1 h2 => ∃ r3, v1 = some (.int r3) ∧ ((¬ r3 = (J 0) → hs h2 256 = (0, 11) ∧ ∃ q7, hR h2 256 43 = some q7 ∧ (((hs h2 q7).1 = 3 ∧ ix (J x1) (hs h2 q7).2 ∧ hs (wI h2 q7 (Int32.toNatClampNeg (J x1)) (vp_nar .byte (J 1))) 256 = (0, 11) ∧ ∃ q9, hR (wI h2 q7 (Int32.toNatClampNeg (J x1)) (vp_nar .byte (J 1))) 256 41 = some q9 ∧ hs (wI h2 q7 (Int32.toNatClampNeg (J x1)) (vp_nar .byte (J 1))) 256 = (0, 11) ∧ (hs (wI h2 q7 (Int32.toNatClampNeg (J x1)) (vp_nar .byte (J 1))) q9).1 = 1 ∧ ix (J x1) (hs (wI h2 q7 (Int32.toNatClampNeg (J x1)) (vp_nar .byte (J 1))) q9).2 ∧ hs (wI (wI h2 q7 (Int32.toNatClampNeg (J x1)) (vp_nar .byte (J 1))) q9 (Int32.toNatClampNeg (J x1)) (hF (wI h2 q7 (Int32.toNatClampNeg (J x1)) (vp_nar .byte (J 1))) 256 21)) 256 = (0, 11) ∧ ∃ q10, hR (wI (wI h2 q7 (Int32.toNatClampNeg (J x1)) (vp_nar .byte (J 1))) q9 (Int32.toNatClampNeg (J x1)) (hF (wI h2 q7 (Int32.toNatClampNeg (J x1)) (vp_nar .byte (J 1))) 256 21)) 256 42 = some q10 ∧ hs (wI (wI h2 q7 (Int32.toNatClampNeg (J x1)) (vp_nar .byte (J 1))) q9 (Int32.toNatClampNeg (J x1)) (hF (wI h2 q7 (Int32.toNatClampNeg (J x1)) (vp_nar .byte (J 1))) 256 21)) 256 = (0, 11) ∧ (hs (wI (wI h2 q7 (Int32.toNatClampNeg (J x1)) (vp_nar .byte (J 1))) q9 (Int32.toNatClampNeg (J x1)) (hF (wI h2 q7 (Int32.toNatClampNeg (J x1)) (vp_nar .byte (J 1))) 256 21)) q10).1 = 1 ∧ ix (J x1) (hs (wI (wI h2 q7 (Int32.toNatClampNeg (J x1)) (vp_nar .byte (J 1))) q9 (Int32.toNatClampNeg (J x1)) (hF (wI h2 q7 (Int32.toNatClampNeg (J x1)) (vp_nar .byte (J 1))) 256 21)) q10).2 ∧ Ex X PG (d + 1) 288 43 [some (.ref 256), some (.int (J x1)), some (.int (J 0))] [] (wI (wI (wI h2 q7 (Int32.toNatClampNeg (J x1)) (vp_nar .byte (J 1))) q9 (Int32.toNatClampNeg (J x1)) (hF (wI h2 q7 (Int32.toNatClampNeg (J x1)) (vp_nar .byte (J 1))) 256 21)) q10 (Int32.toNatClampNeg (J x1)) (hF (wI (wI h2 q7 (Int32.toNatClampNeg (J x1)) (vp_nar .byte (J 1))) q9 (Int32.toNatClampNeg (J x1)) (hF (wI h2 q7 (Int32.toNatClampNeg (J x1)) (vp_nar .byte (J 1))) 256 21)) 256 22)) Q) ∨ ((hs h2 q7).1 = 4 ∧ ix (J x1) (hs h2 q7).2 ∧ hs (wI h2 q7 (Int32.toNatClampNeg (J x1)) (vp_nar .boolean (J 1))) 256 = (0, 11) ∧ ∃ q11, hR (wI h2 q7 (Int32.toNatClampNeg (J x1)) (vp_nar .boolean (J 1))) 256 41 = some q11 ∧ hs (wI h2 q7 (Int32.toNatClampNeg (J x1)) (vp_nar .boolean (J 1))) 256 = (0, 11) ∧ (hs (wI h2 q7 (Int32.toNatClampNeg (J x1)) (vp_nar .boolean (J 1))) q11).1 = 1 ∧ ix (J x1) (hs (wI h2 q7 (Int32.toNatClampNeg (J x1)) (vp_nar .boolean (J 1))) q11).2 ∧ hs (wI (wI h2 q7 (Int32.toNatClampNeg (J x1)) (vp_nar .boolean (J 1))) q11 (Int32.toNatClampNeg (J x1)) (hF (wI h2 q7 (Int32.toNatClampNeg (J x1)) (vp_nar .boolean (J 1))) 256 21)) 256 = (0, 11) ∧ ∃ q12, hR (wI (wI h2 q7 (Int32.toNatClampNeg (J x1)) (vp_nar .boolean (J 1))) q11 (Int32.toNatClampNeg (J x1)) (hF (wI h2 q7 (Int32.toNatClampNeg (J x1)) (vp_nar .boolean (J 1))) 256 21)) 256 42 = some q12 ∧ hs (wI (wI h2 q7 (Int32.toNatClampNeg (J x1)) (vp_nar .boolean (J 1))) q11 (Int32.toNatClampNeg (J x1)) (hF (wI h2 q7 (Int32.toNatClampNeg (J x1)) (vp_nar .boolean (J 1))) 256 21)) 256 = (0, 11) ∧ (hs (wI (wI h2 q7 (Int32.toNatClampNeg (J x1)) (vp_nar .boolean (J 1))) q11 (Int32.toNatClampNeg (J x1)) (hF (wI h2 q7 (Int32.toNatClampNeg (J x1)) (vp_nar .boolean (J 1))) 256 21)) q12).1 = 1 ∧ ix (J x1) (hs (wI (wI h2 q7 (Int32.toNatClampNeg (J x1)) (vp_nar .boolean (J 1))) q11 (Int32.toNatClampNeg (J x1)) (hF (wI h2 q7 (Int32.toNatClampNeg (J x1)) (vp_nar .boolean (J 1))) 256 21)) q12).2 ∧ Ex X PG (d + 1) 288 43 [some (.ref 256), some (.int (J x1)), some (.int (J 0))] [] (wI (wI (wI h2 q7 (Int32.toNatClampNeg (J x1)) (vp_nar .boolean (J 1))) q11 (Int32.toNatClampNeg (J x1)) (hF (wI h2 q7 (Int32.toNatClampNeg (J x1)) (vp_nar .boolean (J 1))) 256 21)) q12 (Int32.toNatClampNeg (J x1)) (hF (wI (wI h2 q7 (Int32.toNatClampNeg (J x1)) (vp_nar .boolean (J 1))) q11 (Int32.toNatClampNeg (J x1)) (hF (wI h2 q7 (Int32.toNatClampNeg (J x1)) (vp_nar .boolean (J 1))) 256 21)) 256 22)) Q))) ∧ (¬ (¬ r3 = (J 0)) → Q (some (.int (J (-1)))) h2)))
  try simp only [aI_wAL, fI_wAL, aL_wA, aL_wF, aI_wA_ne, aI_wF_ne, fI_wA_ne, fI_wF_ne, fI_wF_nk, aL_wAL_ne, J_sameA, J_sameF, aL_same, Nat.add_left_cancel_iff, Nat.add_eq_left, Nat.left_eq_add, not_false_eq_true, Nat.reduceEqDiff, Nat.reduceAdd, J_add, J_sub, J_mul, J_neg, J_and, J_or, J_xor, J_shl, J_shr, J_div, J_i2b, J_i2l, J_l2i, J_lcm, J_max, J_min, J_nab, J_nao, rdA, rdF, rdL, wA_fold, wF_fold, wL_fold, wC_fold]
  obtain ⟨k4, w⟩ := w
  refine m186 (h := h) (v := x1) (lo := 0) (hi := 3) C_h (by omega) k4 (by decide) (by decide) ?_
  refine ⟨_, rfl, ?_⟩
  try simp only [aI_wAL, fI_wAL, aL_wA, aL_wF, aI_wA_ne, aI_wF_ne, fI_wA_ne, fI_wF_ne, fI_wF_nk, aL_wAL_ne, J_sameA, J_sameF, aL_same, Nat.add_left_cancel_iff, Nat.add_eq_left, Nat.left_eq_add, not_false_eq_true, Nat.reduceEqDiff, Nat.reduceAdd, J_add, J_sub, J_mul, J_neg, J_and, J_or, J_xor, J_shl, J_shr, J_div, J_i2b, J_i2l, J_l2i, J_lcm, J_max, J_min, J_nab, J_nao, rdA, rdF, rdL, wA_fold, wF_fold, wL_fold, wC_fold]
  refine ⟨fun c5 => ?_, fun c5 => ?_⟩
  · have t6 : (0 ≤ x1 ∧ x1 ≤ 3) := (Classical.byContradiction fun n => c5 ((bI0 _).mpr n))
    replace w := w.1 t6
    refine ⟨(ls256 C_h), _, (lr256_43 C_h), ?_⟩
    obtain ⟨k8, w⟩ := w
    refine Or.inr ⟨congrArg Prod.fst (ls280 C_h), ixs (ls280 C_h) k8 (by decide), ?_⟩
    refine ⟨(ls256 C_h), _, (lr256_41 C_h), ?_⟩
    refine ⟨(ls256 C_h), ?_⟩
    refine ⟨congrArg Prod.fst (ls278 C_h), ixs (ls278 C_h) k8 (by decide), ?_⟩
    refine ⟨(ls256 C_h), _, (lr256_42 C_h), ?_⟩
    refine ⟨(ls256 C_h), ?_⟩
    refine ⟨congrArg Prod.fst (ls279 C_h), ixs (ls279 C_h) k8 (by decide), ?_⟩
    exact w
  · have t6 : ¬ (0 ≤ x1 ∧ x1 ≤ 3) := ((bI0 _).mp (Classical.byContradiction fun n => c5 n))
    replace w := w.2 t6
    exact w
-- OutwardDoorsModel.image(I)I at 43
set_option maxRecDepth 20000 in
set_option maxHeartbeats 4000000 in
theorem r288_43 {X : Cst} {d : Nat} {x1 : Int} {x2 : Int} {h : AH} {Q : Post} (C_h : Lay h)
  (w : (-2147483648 ≤ x2 ∧ x2 < 2147483648) ∧ ((123 ≤ x2 → Q (some (.int (J (aI h 266 3)))) h) ∧ (¬ 123 ≤ x2 → (0 ≤ x2 ∧ x2 < 123) ∧ (0 ≤ (123 * x1) + x2 ∧ (123 * x1) + x2 < 492) ∧ Ex X PG (d + 1) 288 43 [some (.ref 256), some (.int (J x1)), some (.int (J (x2 + 1)))] [] (wA h 277 ((123 * x1) + x2) (aI h 266 x2)) Q))) :
    Ex X PG (d + 1) 288 43 [some (.ref 256), some (.int (J x1)), some (.int (J x2))] [] h Q := by
  refine wpx_ok (cut := [43]) 17 d 288 43 _ _ _ _ ?_
  show (((J 123) ≤ (J x2) → hs h 256 = (0, 11) ∧ ∃ q4, hR h 256 20 = some q4 ∧ (hs h q4).1 = 1 ∧ ix (J 3) (hs h q4).2 ∧ Q (some (.int (hI h q4 (Int32.toNatClampNeg (J 3))))) h) ∧ (¬ ((J 123) ≤ (J x2)) → hs h 256 = (0, 11) ∧ ∃ q5, hR h 256 40 = some q5 ∧ hs h 256 = (0, 11) ∧ ∃ q6, hR h 256 20 = some q6 ∧ (hs h q6).1 = 1 ∧ ix (J x2) (hs h q6).2 ∧ (hs h q5).1 = 1 ∧ ix (((J 123) * (J x1)) + (J x2)) (hs h q5).2 ∧ Ex X PG (d + 1) 288 43 [some (.ref 256), some (.int (J x1)), some (.int ((J x2) + (J 1)))] [] (wI h q5 (Int32.toNatClampNeg (((J 123) * (J x1)) + (J x2))) (hI h q6 (Int32.toNatClampNeg (J x2)))) Q))
  try simp only [aI_wAL, fI_wAL, aL_wA, aL_wF, aI_wA_ne, aI_wF_ne, fI_wA_ne, fI_wF_ne, fI_wF_nk, aL_wAL_ne, J_sameA, J_sameF, aL_same, Nat.add_left_cancel_iff, Nat.add_eq_left, Nat.left_eq_add, not_false_eq_true, Nat.reduceEqDiff, Nat.reduceAdd, J_add, J_sub, J_mul, J_neg, J_and, J_or, J_xor, J_shl, J_shr, J_div, J_i2b, J_i2l, J_l2i, J_lcm, J_max, J_min, J_nab, J_nao, rdA, rdF, rdL, wA_fold, wF_fold, wL_fold, wC_fold]
  obtain ⟨k3, w⟩ := w
  refine ⟨fun c1 => ?_, fun c1 => ?_⟩
  · have t2 : 123 ≤ x2 := ((Jle (by decide) k3).mp c1)
    replace w := w.1 t2
    refine ⟨(ls256 C_h), _, (lr256_20 C_h), ?_⟩
    refine ⟨congrArg Prod.fst (ls266 C_h), ixs (ls266 C_h) (by decide) (by decide), ?_⟩
    exact w
  · have t2 : ¬ 123 ≤ x2 := (fun e => c1 ((Jle (by decide) k3).mpr e))
    replace w := w.2 t2
    refine ⟨(ls256 C_h), _, (lr256_40 C_h), ?_⟩
    refine ⟨(ls256 C_h), _, (lr256_20 C_h), ?_⟩
    obtain ⟨k7, w⟩ := w
    refine ⟨congrArg Prod.fst (ls266 C_h), ixs (ls266 C_h) k7 (by decide), ?_⟩
    obtain ⟨k8, w⟩ := w
    refine ⟨congrArg Prod.fst (ls277 C_h), ixs (ls277 C_h) k8 (by decide), ?_⟩
    exact w
theorem m288 {X : Cst} {d : Nat} {x : Int} {h : AH} {Q : Post} (C : Lay h) (hd : 2 ≤ d) (g1 : -2147483648 ≤ x ∧ x < 2147483648)
    (k0 : ¬ (0 ≤ x ∧ x ≤ 3) → Q (some (.int (J (-1)))) h)
    (k : (0 ≤ x ∧ x ≤ 3) → ∀ h', Fr (fun c _ => 277 ≤ c ∧ c ≤ 280) h h' → aI h' 280 = uu_ (aI h 280) x 1 → aI h' 278 = uu_ (aI h 278) x (fI h 256 21) → aI h' 279 = uu_ (aI h 279) x (fI h 256 22) → (∀ i, 0 ≤ i → i < 123 → aI h' 277 (123 * x + i) = aI h 266 i) → (∀ j, 0 ≤ j → j < 492 → (j < 123 * x ∨ 123 * x + 123 ≤ j) → aI h' 277 j = aI h 277 j) → Q (some (.int (J (aI h 266 3)))) h') : Ex X PG d 288 0 [some (.ref 256), some (.int (J x)), none] [] h Q := by
  obtain ⟨d, rfl⟩ : ∃ e, d = e + 1 := ⟨d - 1, by omega⟩
  refine r288_0 C (by omega) ⟨g1, fun c => ⟨by omega, ?_⟩, fun c => k0 c⟩
  rw [nao_1]
  have F0 : Fr (fun c _ => 277 ≤ c ∧ c ≤ 280) h (wA (wA (wA h 280 x 1) 278 x (fI h 256 21)) 279 x (fI h 256 22)) := (((Fr.rf (T := fun c _ => 277 ≤ c ∧ c ≤ 280)).wA (by decide)).wA (by decide)).wA (by decide)
  have e0 : aI (wA (wA (wA h 280 x 1) 278 x (fI h 256 21)) 279 x (fI h 256 22)) 280 = uu_ (aI h 280) x 1 := by rw [aI_wA_ne (by decide), aI_wA_ne (by decide), aI_wA (by decide)]
  have e8 : aI (wA (wA (wA h 280 x 1) 278 x (fI h 256 21)) 279 x (fI h 256 22)) 278 = uu_ (aI h 278) x (fI h 256 21) := by rw [aI_wA_ne (by decide), aI_wA (fI_rg _ _ _), aI_wA_ne (by decide)]
  have e9 : aI (wA (wA (wA h 280 x 1) 278 x (fI h 256 21)) 279 x (fI h 256 22)) 279 = uu_ (aI h 279) x (fI h 256 22) := by rw [aI_wA (fI_rg _ _ _), aI_wA_ne (by decide), aI_wA_ne (by decide)]
  have e7 : aI (wA (wA (wA h 280 x 1) 278 x (fI h 256 21)) 279 x (fI h 256 22)) 277 = aI h 277 := by rw [aI_wA_ne (by decide), aI_wA_ne (by decide), aI_wA_ne (by decide)]
  have lp : ∀ (n : Nat) (i : Int) (h' : AH), Fr (fun c _ => 277 ≤ c ∧ c ≤ 280) h h' → 123 - i = n → 0 ≤ i → aI h' 280 = uu_ (aI h 280) x 1 → aI h' 278 = uu_ (aI h 278) x (fI h 256 21) → aI h' 279 = uu_ (aI h 279) x (fI h 256 22) → (∀ j, 0 ≤ j → j < i → aI h' 277 (123 * x + j) = aI h 266 j) → (∀ j, 0 ≤ j → j < 492 → (j < 123 * x ∨ 123 * x + i ≤ j) → aI h' 277 j = aI h 277 j) → Ex X PG (d + 1) 288 43 [some (.ref 256), some (.int (J x)), some (.int (J i))] [] h' Q := by
    intro n
    induction n with
    | zero =>
      intro i h' F h1 h2 a0 a8 a9 a1 a2
      refine r288_43 (F.C C) ?_
      rw [F.a 266 (fun k z => by omega)]
      exact ⟨by omega, fun _ => k c h' F a0 a8 a9 (fun j j0 j1 => a1 j j0 (by omega)) (fun j j0 j1 j2 => a2 j j0 j1 (by omega)), fun z => absurd (by omega) z⟩
    | succ n ih =>
      intro i h' F h1 h2 a0 a8 a9 a1 a2
      refine r288_43 (F.C C) ?_
      rw [F.a 266 (fun k z => by omega)]
      refine ⟨by omega, fun z => absurd z (by omega), fun _ => ⟨by omega, by omega, ?_⟩⟩
      refine ih (i + 1) _ (F.wA (by decide)) (by omega) (by omega) (by rw [aI_wA_ne (by decide)]; exact a0) (by rw [aI_wA_ne (by decide)]; exact a8) (by rw [aI_wA_ne (by decide)]; exact a9) (fun j j0 j1 => ?_) (fun j j0 j1 j2 => ?_)
      · rw [aI_wA (aI_rg _ _ _)]
        by_cases q : j = i
        · rw [q, uu_eq]
        · rw [uu_ne (by omega) (by omega) (by omega)]; exact a1 j j0 (by omega)
      · rw [aI_wA (aI_rg _ _ _), uu_ne (by omega) (by omega) (by omega)]; exact a2 j j0 j1 (by omega)
  exact lp 123 0 _ F0 (by omega) (by omega) e0 e8 e9 (fun j j0 j1 => by omega) (fun j j0 j1 _ => by rw [e7])
-- OutwardDoorsModel.back(I)I at 0
set_option maxRecDepth 20000 in
set_option maxHeartbeats 4000000 in
theorem r289_0 {X : Cst} {d : Nat} {x1 : Int} {h : AH} {Q : Post} (C_h : Lay h) (hd : 1 ≤ d)
  (w : (-2147483648 ≤ x1 ∧ x1 < 2147483648) ∧ ((¬ (0 ≤ x1 ∧ x1 ≤ 3) → Q (some (.int (J (-1)))) h) ∧ ((0 ≤ x1 ∧ x1 ≤ 3) → (0 ≤ x1 ∧ x1 < 4) ∧ ((¬ aI h 280 x1 = 0 → Ex X PG (d + 1) 289 50 [some (.ref 256), some (.int (J x1)), some (.int (J 0))] [] (wF (wF (wF h 256 21 (aI h 278 x1)) 256 22 (aI h 279 x1)) 256 27 0) Q) ∧ (aI h 280 x1 = 0 → Q (some (.int (J (-1)))) h))))) :
    Ex X PG (d + 1) 289 0 [some (.ref 256), some (.int (J x1)), none] [] h Q := by
  refine wpx_ok (cut := [50]) 28 d 289 0 _ _ _ _ ?_
  show Ex X PG d 186 0 [some (.long (Int32.toInt64 (J x1))), none, some (.long (0 : Int64)), none, some (.long (3 : Int64)), none] [] h (fun v1 h2 => ∃ r3, v1 = some (.int r3) ∧ ((r3 = (J 0) → Q (some (.int (J (-1)))) h2) ∧ (¬ (r3 = (J 0)) → hs h2 256 = (0, 11) ∧ ∃ q7, hR h2 256 43 = some q7 ∧ ((hs h2 q7).1 = 3 ∨ (hs h2 q7).1 = 4) ∧ ix (J x1) (hs h2 q7).2 ∧ ((¬ (hI h2 q7 (Int32.toNatClampNeg (J x1))) = (J 0) → hs h2 256 = (0, 11) ∧ ∃ q11, hR h2 256 41 = some q11 ∧ (hs h2 q11).1 = 1 ∧ ix (J x1) (hs h2 q11).2 ∧ hs h2 256 = (0, 11) ∧ hs (wG h2 256 21 (hI h2 q11 (Int32.toNatClampNeg (J x1)))) 256 = (0, 11) ∧ ∃ q12, hR (wG h2 256 21 (hI h2 q11 (Int32.toNatClampNeg (J x1)))) 256 42 = some q12 ∧ (hs (wG h2 256 21 (hI h2 q11 (Int32.toNatClampNeg (J x1)))) q12).1 = 1 ∧ ix (J x1) (hs (wG h2 256 21 (hI h2 q11 (Int32.toNatClampNeg (J x1)))) q12).2 ∧ hs (wG h2 256 21 (hI h2 q11 (Int32.toNatClampNeg (J x1)))) 256 = (0, 11) ∧ hs (wG (wG h2 256 21 (hI h2 q11 (Int32.toNatClampNeg (J x1)))) 256 22 (hI (wG h2 256 21 (hI h2 q11 (Int32.toNatClampNeg (J x1)))) q12 (Int32.toNatClampNeg (J x1)))) 256 = (0, 11) ∧ Ex X PG (d + 1) 289 50 [some (.ref 256), some (.int (J x1)), some (.int (J 0))] [] (wG (wG (wG h2 256 21 (hI h2 q11 (Int32.toNatClampNeg (J x1)))) 256 22 (hI (wG h2 256 21 (hI h2 q11 (Int32.toNatClampNeg (J x1)))) q12 (Int32.toNatClampNeg (J x1)))) 256 27 (J 0)) Q) ∧ (¬ (¬ (hI h2 q7 (Int32.toNatClampNeg (J x1))) = (J 0)) → Q (some (.int (J (-1)))) h2)))))
  try simp only [aI_wAL, fI_wAL, aL_wA, aL_wF, aI_wA_ne, aI_wF_ne, fI_wA_ne, fI_wF_ne, fI_wF_nk, aL_wAL_ne, J_sameA, J_sameF, aL_same, Nat.add_left_cancel_iff, Nat.add_eq_left, Nat.left_eq_add, not_false_eq_true, Nat.reduceEqDiff, Nat.reduceAdd, J_add, J_sub, J_mul, J_neg, J_and, J_or, J_xor, J_shl, J_shr, J_div, J_i2b, J_i2l, J_l2i, J_lcm, J_max, J_min, J_nab, J_nao, rdA, rdF, rdL, wA_fold, wF_fold, wL_fold, wC_fold]
  obtain ⟨k4, w⟩ := w
  refine m186 (h := h) (v := x1) (lo := 0) (hi := 3) C_h (by omega) k4 (by decide) (by decide) ?_
  refine ⟨_, rfl, ?_⟩
  try simp only [aI_wAL, fI_wAL, aL_wA, aL_wF, aI_wA_ne, aI_wF_ne, fI_wA_ne, fI_wF_ne, fI_wF_nk, aL_wAL_ne, J_sameA, J_sameF, aL_same, Nat.add_left_cancel_iff, Nat.add_eq_left, Nat.left_eq_add, not_false_eq_true, Nat.reduceEqDiff, Nat.reduceAdd, J_add, J_sub, J_mul, J_neg, J_and, J_or, J_xor, J_shl, J_shr, J_div, J_i2b, J_i2l, J_l2i, J_lcm, J_max, J_min, J_nab, J_nao, rdA, rdF, rdL, wA_fold, wF_fold, wL_fold, wC_fold]
  refine ⟨fun c5 => ?_, fun c5 => ?_⟩
  · have t6 : ¬ (0 ≤ x1 ∧ x1 ≤ 3) := ((bI0 _).mp c5)
    replace w := w.1 t6
    exact w
  · have t6 : (0 ≤ x1 ∧ x1 ≤ 3) := (Classical.byContradiction fun n => c5 ((bI0 _).mpr n))
    replace w := w.2 t6
    refine ⟨(ls256 C_h), _, (lr256_43 C_h), ?_⟩
    obtain ⟨k8, w⟩ := w
    refine ⟨Or.inr (congrArg Prod.fst (ls280 C_h)), ixs (ls280 C_h) k8 (by decide), ?_⟩
    refine ⟨fun c9 => ?_, fun c9 => ?_⟩
    · have t10 : ¬ aI h 280 x1 = 0 := (fun e => c9 ((Jeq (rg_toInt _) (by decide)).mpr e))
      replace w := w.1 t10
      refine ⟨(ls256 C_h), _, (lr256_41 C_h), ?_⟩
      refine ⟨congrArg Prod.fst (ls278 C_h), ixs (ls278 C_h) k8 (by decide), ?_⟩
      refine ⟨(ls256 C_h), ?_⟩
      refine ⟨(ls256 C_h), _, (lr256_42 C_h), ?_⟩
      refine ⟨congrArg Prod.fst (ls279 C_h), ixs (ls279 C_h) k8 (by decide), ?_⟩
      try simp only [aI_wAL, fI_wAL, aL_wA, aL_wF, aI_wA_ne, aI_wF_ne, fI_wA_ne, fI_wF_ne, fI_wF_nk, aL_wAL_ne, J_sameA, J_sameF, aL_same, Nat.add_left_cancel_iff, Nat.add_eq_left, Nat.left_eq_add, not_false_eq_true, Nat.reduceEqDiff, Nat.reduceAdd]
      refine ⟨(ls256 C_h), ?_⟩
      refine ⟨(ls256 C_h), ?_⟩
      exact w
    · have t10 : aI h 280 x1 = 0 := ((Jeq (rg_toInt _) (by decide)).mp (Classical.byContradiction c9))
      replace w := w.2 t10
      exact w
-- OutwardDoorsModel.back(I)I at 50
set_option maxRecDepth 20000 in
set_option maxHeartbeats 4000000 in
theorem r289_50 {X : Cst} {d : Nat} {x1 : Int} {x2 : Int} {h : AH} {Q : Post} (C_h : Lay h)
  (w : (-2147483648 ≤ x2 ∧ x2 < 2147483648) ∧ ((123 ≤ x2 → Q (some (.int (J (aI h 266 3)))) h) ∧ (¬ 123 ≤ x2 → (0 ≤ (123 * x1) + x2 ∧ (123 * x1) + x2 < 492) ∧ (0 ≤ x2 ∧ x2 < 123) ∧ Ex X PG (d + 1) 289 50 [some (.ref 256), some (.int (J x1)), some (.int (J (x2 + 1)))] [] (wA h 266 x2 (aI h 277 ((123 * x1) + x2))) Q))) :
    Ex X PG (d + 1) 289 50 [some (.ref 256), some (.int (J x1)), some (.int (J x2))] [] h Q := by
  refine wpx_ok (cut := [50]) 17 d 289 50 _ _ _ _ ?_
  show (((J 123) ≤ (J x2) → hs h 256 = (0, 11) ∧ ∃ q4, hR h 256 20 = some q4 ∧ (hs h q4).1 = 1 ∧ ix (J 3) (hs h q4).2 ∧ Q (some (.int (hI h q4 (Int32.toNatClampNeg (J 3))))) h) ∧ (¬ ((J 123) ≤ (J x2)) → hs h 256 = (0, 11) ∧ ∃ q5, hR h 256 20 = some q5 ∧ hs h 256 = (0, 11) ∧ ∃ q6, hR h 256 40 = some q6 ∧ (hs h q6).1 = 1 ∧ ix (((J 123) * (J x1)) + (J x2)) (hs h q6).2 ∧ (hs h q5).1 = 1 ∧ ix (J x2) (hs h q5).2 ∧ Ex X PG (d + 1) 289 50 [some (.ref 256), some (.int (J x1)), some (.int ((J x2) + (J 1)))] [] (wI h q5 (Int32.toNatClampNeg (J x2)) (hI h q6 (Int32.toNatClampNeg (((J 123) * (J x1)) + (J x2))))) Q))
  try simp only [aI_wAL, fI_wAL, aL_wA, aL_wF, aI_wA_ne, aI_wF_ne, fI_wA_ne, fI_wF_ne, fI_wF_nk, aL_wAL_ne, J_sameA, J_sameF, aL_same, Nat.add_left_cancel_iff, Nat.add_eq_left, Nat.left_eq_add, not_false_eq_true, Nat.reduceEqDiff, Nat.reduceAdd, J_add, J_sub, J_mul, J_neg, J_and, J_or, J_xor, J_shl, J_shr, J_div, J_i2b, J_i2l, J_l2i, J_lcm, J_max, J_min, J_nab, J_nao, rdA, rdF, rdL, wA_fold, wF_fold, wL_fold, wC_fold]
  obtain ⟨k3, w⟩ := w
  refine ⟨fun c1 => ?_, fun c1 => ?_⟩
  · have t2 : 123 ≤ x2 := ((Jle (by decide) k3).mp c1)
    replace w := w.1 t2
    refine ⟨(ls256 C_h), _, (lr256_20 C_h), ?_⟩
    refine ⟨congrArg Prod.fst (ls266 C_h), ixs (ls266 C_h) (by decide) (by decide), ?_⟩
    exact w
  · have t2 : ¬ 123 ≤ x2 := (fun e => c1 ((Jle (by decide) k3).mpr e))
    replace w := w.2 t2
    refine ⟨(ls256 C_h), _, (lr256_20 C_h), ?_⟩
    refine ⟨(ls256 C_h), _, (lr256_40 C_h), ?_⟩
    obtain ⟨k7, w⟩ := w
    refine ⟨congrArg Prod.fst (ls277 C_h), ixs (ls277 C_h) k7 (by decide), ?_⟩
    obtain ⟨k8, w⟩ := w
    refine ⟨congrArg Prod.fst (ls266 C_h), ixs (ls266 C_h) k8 (by decide), ?_⟩
    exact w
theorem m289 {X : Cst} {d : Nat} {x : Int} {h : AH} {Q : Post} (C : Lay h) (hd : 2 ≤ d) (g1 : -2147483648 ≤ x ∧ x < 2147483648)
    (k0 : ¬ ((0 ≤ x ∧ x ≤ 3) ∧ ¬ aI h 280 x = 0) → Q (some (.int (J (-1)))) h)
    (k : ((0 ≤ x ∧ x ≤ 3) ∧ ¬ aI h 280 x = 0) → ∀ h', Fr (fun c j => c = 266 ∨ (c = 256 ∧ (j = 21 ∨ j = 22 ∨ j = 27))) h h' → fI h' 256 21 = aI h 278 x → fI h' 256 22 = aI h 279 x → fI h' 256 27 = 0 → aI h' 266 = mix 123 (shf (aI h 277) (123 * x)) (aI h 266) → Q (some (.int (J (aI h' 266 3)))) h') : Ex X PG d 289 0 [some (.ref 256), some (.int (J x)), none] [] h Q := by
  obtain ⟨d, rfl⟩ : ∃ e, d = e + 1 := ⟨d - 1, by omega⟩
  refine r289_0 C (by omega) ⟨g1, fun c => k0 (fun z => c z.1), fun c => ⟨by omega, fun c2 => ?_, fun c2 => k0 (fun z => z.2 c2)⟩⟩
  have F0 : Fr (fun c j => c = 266 ∨ (c = 256 ∧ (j = 21 ∨ j = 22 ∨ j = 27))) h (wF (wF (wF h 256 21 (aI h 278 x)) 256 22 (aI h 279 x)) 256 27 0) := (((Fr.rf (T := fun c j => c = 266 ∨ (c = 256 ∧ (j = 21 ∨ j = 22 ∨ j = 27)))).wF (by decide)).wF (by decide)).wF (by decide)
  have lp : ∀ (n : Nat) (i : Int) (h' : AH), Fr (fun c j => c = 266 ∨ (c = 256 ∧ (j = 21 ∨ j = 22 ∨ j = 27))) h h' → 123 - i = n → 0 ≤ i → fI h' 256 21 = aI h 278 x → fI h' 256 22 = aI h 279 x → fI h' 256 27 = 0 → aI h' 266 = mix i.toNat (shf (aI h 277) (123 * x)) (aI h 266) → Ex X PG (d + 1) 289 50 [some (.ref 256), some (.int (J x)), some (.int (J i))] [] h' Q := by
    intro n
    induction n with
    | zero =>
      intro i h' F h1 h2 f1 f2 f7 e
      exact r289_50 (F.C C) ⟨by omega, fun _ => k ⟨c, c2⟩ h' F f1 f2 f7 (by rw [e, show i.toNat = 123 by omega]), fun z => absurd (by omega) z⟩
    | succ n ih =>
      intro i h' F h1 h2 f1 f2 f7 e
      refine r289_50 (F.C C) ⟨by omega, fun z => absurd z (by omega), fun _ => ⟨by omega, by omega, ?_⟩⟩
      refine ih (i + 1) _ (F.wA (Or.inl rfl)) (by omega) (by omega) (by rw [fI_wA_ne (by decide)]; exact f1) (by rw [fI_wA_ne (by decide)]; exact f2) (by rw [fI_wA_ne (by decide)]; exact f7) ?_
      rw [aI_wA (aI_rg _ _ _), e, F.a 277 (fun k z => by omega), ← shf_k (W := aI h 277) (by omega), mix_s (Tn_shf _ _) (by omega), show (i + 1).toNat = i.toNat + 1 by omega]
  refine lp 123 0 _ F0 (by omega) (by omega) ?_ ?_ ?_ ?_
  · rw [fI_wF_nk (by decide), fI_wF_nk (by decide), fI_wF_eq (aI_rg _ _ _)]
  · rw [fI_wF_nk (by decide), fI_wF_eq (aI_rg _ _ _)]
  · rw [fI_wF_eq (by decide)]
  · rw [aI_wF_ne (by decide), aI_wF_ne (by decide), aI_wF_ne (by decide)]; exact (mix_0 _ _).symm
