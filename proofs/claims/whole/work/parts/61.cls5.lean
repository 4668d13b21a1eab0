/-! THE CLASS: undo, moment. -/
-- OutwardDoors.undo()I at 0
set_option maxRecDepth 20000 in
set_option maxHeartbeats 4000000 in
theorem r108_0 {X : Cst} {d : Nat} {pl : Nat} {h : AH} {Q : Post} (C_h : Lay h) (K_h_0 : PlanAt h pl) (P_h : hR h 52 0 = some pl) (hd : 1 ≤ d)
  (w : ((¬ fI h 0 14 = 0 → (0 ≤ (((fI h 0 15) + 20) - 1) - idv (((fI h 0 15) + 20) - 1) 20 * 20 ∧ (((fI h 0 15) + 20) - 1) - idv (((fI h 0 15) + 20) - 1) 20 * 20 < 20) ∧ (64 + 5 < (121 + 6 * Int.toNat ((((fI h 0 15) + 20) - 1) - idv (((fI h 0 15) + 20) - 1) 20 * 20)) ∨ (121 + 6 * Int.toNat ((((fI h 0 15) + 20) - 1) - idv (((fI h 0 15) + 20) - 1) 20 * 20)) + 5 < 64) ∧ (∀ h9, SH (wF (wF h 0 14 ((fI h 0 14) - 1)) 0 15 ((((fI h 0 15) + 20) - 1) - idv (((fI h 0 15) + 20) - 1) 20 * 20)) h9 → (Fr (fun c _ => 64 ≤ c ∧ c ≤ 64 + 5) (wF (wF h 0 14 ((fI h 0 14) - 1)) 0 15 ((((fI h 0 15) + 20) - 1) - idv (((fI h 0 15) + 20) - 1) 20 * 20)) h9 ∧ WCopy (wF (wF h 0 14 ((fI h 0 14) - 1)) 0 15 ((((fI h 0 15) + 20) - 1) - idv (((fI h 0 15) + 20) - 1) 20 * 20)) h9 64 (121 + 6 * Int.toNat ((((fI h 0 15) + 20) - 1) - idv (((fI h 0 15) + 20) - 1) 20 * 20))) → Q (some (.int (J (fI h9 0 14)))) h9)) ∧ (fI h 0 14 = 0 → Q (some (.int (J (-1)))) h))) :
    Ex X PG (d + 1) 108 0 [some (.ref 0)] [] h Q := by
  refine wpx_ok (cut := []) 31 d 108 0 _ _ _ _ ?_
  show hs h 0 = (0, 10) ∧ ((¬ (hF h 0 14) = (J 0) → hs h 0 = (0, 10) ∧ hs h 0 = (0, 10) ∧ hs (wG h 0 14 ((hF h 0 14) - (J 1))) 0 = (0, 10) ∧ ¬ (J 20) = J 0 ∧ hs (wG h 0 14 ((hF h 0 14) - (J 1))) 0 = (0, 10) ∧ hs (wG (wG h 0 14 ((hF h 0 14) - (J 1))) 0 15 ((((hF (wG h 0 14 ((hF h 0 14) - (J 1))) 0 15) + (J 20)) - (J 1)) - (((hF (wG h 0 14 ((hF h 0 14) - (J 1))) 0 15) + (J 20)) - (J 1)) / (J 20) * (J 20))) 0 = (0, 10) ∧ ∃ q3, hR (wG (wG h 0 14 ((hF h 0 14) - (J 1))) 0 15 ((((hF (wG h 0 14 ((hF h 0 14) - (J 1))) 0 15) + (J 20)) - (J 1)) - (((hF (wG h 0 14 ((hF h 0 14) - (J 1))) 0 15) + (J 20)) - (J 1)) / (J 20) * (J 20))) 0 5 = some q3 ∧ hs (wG (wG h 0 14 ((hF h 0 14) - (J 1))) 0 15 ((((hF (wG h 0 14 ((hF h 0 14) - (J 1))) 0 15) + (J 20)) - (J 1)) - (((hF (wG h 0 14 ((hF h 0 14) - (J 1))) 0 15) + (J 20)) - (J 1)) / (J 20) * (J 20))) q3 = (0, 6) ∧ ∃ q4, hR (wG (wG h 0 14 ((hF h 0 14) - (J 1))) 0 15 ((((hF (wG h 0 14 ((hF h 0 14) - (J 1))) 0 15) + (J 20)) - (J 1)) - (((hF (wG h 0 14 ((hF h 0 14) - (J 1))) 0 15) + (J 20)) - (J 1)) / (J 20) * (J 20))) q3 1 = some q4 ∧ hs (wG (wG h 0 14 ((hF h 0 14) - (J 1))) 0 15 ((((hF (wG h 0 14 ((hF h 0 14) - (J 1))) 0 15) + (J 20)) - (J 1)) - (((hF (wG h 0 14 ((hF h 0 14) - (J 1))) 0 15) + (J 20)) - (J 1)) / (J 20) * (J 20))) 0 = (0, 10) ∧ ∃ q5, hR (wG (wG h 0 14 ((hF h 0 14) - (J 1))) 0 15 ((((hF (wG h 0 14 ((hF h 0 14) - (J 1))) 0 15) + (J 20)) - (J 1)) - (((hF (wG h 0 14 ((hF h 0 14) - (J 1))) 0 15) + (J 20)) - (J 1)) / (J 20) * (J 20))) 0 8 = some q5 ∧ hs (wG (wG h 0 14 ((hF h 0 14) - (J 1))) 0 15 ((((hF (wG h 0 14 ((hF h 0 14) - (J 1))) 0 15) + (J 20)) - (J 1)) - (((hF (wG h 0 14 ((hF h 0 14) - (J 1))) 0 15) + (J 20)) - (J 1)) / (J 20) * (J 20))) 0 = (0, 10) ∧ 5 ≤ (hs (wG (wG h 0 14 ((hF h 0 14) - (J 1))) 0 15 ((((hF (wG h 0 14 ((hF h 0 14) - (J 1))) 0 15) + (J 20)) - (J 1)) - (((hF (wG h 0 14 ((hF h 0 14) - (J 1))) 0 15) + (J 20)) - (J 1)) / (J 20) * (J 20))) q5).1 ∧ ix (hF (wG (wG h 0 14 ((hF h 0 14) - (J 1))) 0 15 ((((hF (wG h 0 14 ((hF h 0 14) - (J 1))) 0 15) + (J 20)) - (J 1)) - (((hF (wG h 0 14 ((hF h 0 14) - (J 1))) 0 15) + (J 20)) - (J 1)) / (J 20) * (J 20))) 0 15) (hs (wG (wG h 0 14 ((hF h 0 14) - (J 1))) 0 15 ((((hF (wG h 0 14 ((hF h 0 14) - (J 1))) 0 15) + (J 20)) - (J 1)) - (((hF (wG h 0 14 ((hF h 0 14) - (J 1))) 0 15) + (J 20)) - (J 1)) / (J 20) * (J 20))) q5).2 ∧ ∃ q6, hR (wG (wG h 0 14 ((hF h 0 14) - (J 1))) 0 15 ((((hF (wG h 0 14 ((hF h 0 14) - (J 1))) 0 15) + (J 20)) - (J 1)) - (((hF (wG h 0 14 ((hF h 0 14) - (J 1))) 0 15) + (J 20)) - (J 1)) / (J 20) * (J 20))) q5 (Int32.toNatClampNeg (hF (wG (wG h 0 14 ((hF h 0 14) - (J 1))) 0 15 ((((hF (wG h 0 14 ((hF h 0 14) - (J 1))) 0 15) + (J 20)) - (J 1)) - (((hF (wG h 0 14 ((hF h 0 14) - (J 1))) 0 15) + (J 20)) - (J 1)) / (J 20) * (J 20))) 0 15)) = some q6 ∧ hs (wG (wG h 0 14 ((hF h 0 14) - (J 1))) 0 15 ((((hF (wG h 0 14 ((hF h 0 14) - (J 1))) 0 15) + (J 20)) - (J 1)) - (((hF (wG h 0 14 ((hF h 0 14) - (J 1))) 0 15) + (J 20)) - (J 1)) / (J 20) * (J 20))) q4 = (0, 9) ∧ Ex X PG d 88 0 [some (.ref q4), some (.ref q6)] [] (wG (wG h 0 14 ((hF h 0 14) - (J 1))) 0 15 ((((hF (wG h 0 14 ((hF h 0 14) - (J 1))) 0 15) + (J 20)) - (J 1)) - (((hF (wG h 0 14 ((hF h 0 14) - (J 1))) 0 15) + (J 20)) - (J 1)) / (J 20) * (J 20))) (fun v8 h9 => v8 = none ∧ hs h9 0 = (0, 10) ∧ Q (some (.int (hF h9 0 14))) h9)) ∧ (¬ (¬ (hF h 0 14) = (J 0)) → Q (some (.int (J (-1)))) h))
  try simp only [aI_wAL, fI_wAL, aL_wA, aL_wF, aI_wA_ne, aI_wF_ne, fI_wA_ne, fI_wF_ne, fI_wF_nk, aL_wAL_ne, J_sameA, J_sameF, aL_same, Nat.add_left_cancel_iff, Nat.add_eq_left, Nat.left_eq_add, not_false_eq_true, Nat.reduceEqDiff, Nat.reduceAdd, J_add, J_sub, J_mul, J_neg, J_and, J_or, J_xor, J_shl, J_shr, J_div, J_i2b, J_i2l, J_l2i, J_lcm, J_max, J_min, J_nab, J_nao, rdA, rdF, rdL, wA_fold, wF_fold, wL_fold, wC_fold]
  refine ⟨(ls0 C_h), ?_⟩
  refine ⟨fun c1 => ?_, fun c1 => ?_⟩
  · have t2 : ¬ fI h 0 14 = 0 := (fun e => c1 ((Jeq (rg_toInt _) (by decide)).mpr e))
    replace w := w.1 t2
    refine ⟨(ls0 C_h), ?_⟩
    refine ⟨(ls0 C_h), ?_⟩
    refine ⟨(ls0 C_h), ?_⟩
    refine ⟨by decide, ?_⟩
    refine ⟨(ls0 C_h), ?_⟩
    refine ⟨(ls0 C_h), _, (lr0_5 C_h), ?_⟩
    refine ⟨(ls52 C_h), _, (lr52_1 C_h), ?_⟩
    refine ⟨(ls0 C_h), _, (lr0_8 C_h), ?_⟩
    refine ⟨(ls0 C_h), ?_⟩
    obtain ⟨k7, w⟩ := w
    have K_h_1 := Lay_e120 C_h k7
    refine ⟨h5o (ls120 C_h) (by decide), ixs (ls120 C_h) k7 (by decide), _, Lay_r120 C_h k7, ?_⟩
    refine ⟨(ls64 C_h), ?_⟩
    obtain ⟨k10, w⟩ := w
    refine m88 (h := wF (wF h 0 14 ((fI h 0 14) - 1)) 0 15 ((((fI h 0 15) + 20) - 1) - idv (((fI h 0 15) + 20) - 1) 20 * 20)) (a := 64) (b := (121 + 6 * Int.toNat ((((fI h 0 15) + 20) - 1) - idv (((fI h 0 15) + 20) - 1) 20 * 20))) C_h (WorldAt_64 C_h) K_h_1 (by omega) (by first | exact k10 | (simp only [aI_wAL, fI_wAL, aL_wA, aL_wF, aI_wA_ne, aI_wF_ne, fI_wA_ne, fI_wF_ne, fI_wF_nk, aL_wAL_ne, Nat.add_left_cancel_iff, Nat.add_eq_left, Nat.left_eq_add, not_false_eq_true, Nat.reduceEqDiff]; exact k10)) ?_
    intro h9 s11 p12
    try simp only [aI_wAL, fI_wAL, aL_wA, aL_wF, aI_wA_ne, aI_wF_ne, fI_wA_ne, fI_wF_ne, fI_wF_nk, aL_wAL_ne, Nat.add_left_cancel_iff, Nat.add_eq_left, Nat.left_eq_add, not_false_eq_true, Nat.reduceEqDiff] at p12
    replace w := w h9 s11 p12
    refine ⟨rfl, ?_⟩
    have C_h9 := Lay_SH s11 C_h
    have K_h9_0 := PlanAt_SH s11 K_h_0
    have K_h9_1 := WorldAt_SH s11 K_h_1
    have P_h9 := (congrFun (congrFun s11.2 52) 0).trans P_h
    try simp only [aI_wAL, fI_wAL, aL_wA, aL_wF, aI_wA_ne, aI_wF_ne, fI_wA_ne, fI_wF_ne, fI_wF_nk, aL_wAL_ne, J_sameA, J_sameF, aL_same, Nat.add_left_cancel_iff, Nat.add_eq_left, Nat.left_eq_add, not_false_eq_true, Nat.reduceEqDiff, Nat.reduceAdd, J_add, J_sub, J_mul, J_neg, J_and, J_or, J_xor, J_shl, J_shr, J_div, J_i2b, J_i2l, J_l2i, J_lcm, J_max, J_min, J_nab, J_nao, rdA, rdF, rdL, wA_fold, wF_fold, wL_fold, wC_fold]
    refine ⟨(ls0 C_h9), ?_⟩
    exact w
  · have t2 : fI h 0 14 = 0 := ((Jeq (rg_toInt _) (by decide)).mp (Classical.byContradiction c1))
    replace w := w.2 t2
    exact w
theorem m108 {X : Cst} {d : Nat} {pl : Nat} {u : Int} {V : Int → Int → Int} {h : AH} {Q : Post} (C : Lay h) (P : hR h 52 0 = some pl) (K : PlanAt h pl) (hd : 2 ≤ d) (B : CP h u V) (V2 : ∀ j, 0 ≤ j → j < u → 0 ≤ V j 2 ∧ V j 2 ≤ 4)
    (k0 : u = 0 → Q (some (.int (J (-1)))) h)
    (k : ¬ u = 0 → ∀ h', Fr (fun c j => (64 ≤ c ∧ c ≤ 69) ∨ (c = 0 ∧ (j = 14 ∨ j = 15))) h h' → CP h' (u - 1) V → WorldRep h' 64 (V (u - 1)) → Q (some (.int (J (u - 1)))) h') : Ex X PG d 108 0 [some (.ref 0)] [] h Q := by
  obtain ⟨d, rfl⟩ : ∃ e, d = e + 1 := ⟨d - 1, by omega⟩
  obtain ⟨b1, b2, b3, b4⟩ := B
  refine r108_0 C K P (by omega) ?_
  rw [b1, rem_nn (by omega) (by decide)]
  refine ⟨fun c => ⟨by omega, by omega, fun h9 s9 p9 => ?_⟩, fun c => k0 c⟩
  have F0 : Fr (fun c j => c = 0 ∧ (j = 14 ∨ j = 15)) h (wF (wF h 0 14 (u - 1)) 0 15 ((fI h 0 15 + 20 - 1) % 20)) := ((Fr.rf (T := fun c j => c = 0 ∧ (j = 14 ∨ j = 15))).wF ⟨rfl, Or.inl rfl⟩).wF ⟨rfl, Or.inr rfl⟩
  have f14 : fI h9 0 14 = u - 1 := by rw [p9.1.f 0 14 (by omega), fI_wF_nk (by decide), fI_wF_eq (by omega)]
  have f15 : fI h9 0 15 = (fI h 0 15 + 20 - 1) % 20 := by rw [p9.1.f 0 15 (by omega), fI_wF_eq (by omega)]
  have F9 : Fr (fun c j => (64 ≤ c ∧ c ≤ 69) ∨ (c = 0 ∧ (j = 14 ∨ j = 15))) h h9 := (F0.mo fun c k z => Or.inr z).tr (p9.1.mo fun c k z => Or.inl (by omega))
  have R0 : ∀ j, 0 ≤ j → j < u → WorldRep (wF (wF h 0 14 (u - 1)) 0 15 ((fI h 0 15 + 20 - 1) % 20)) (121 + 6 * Int.toNat ((fI h 0 15 + 20 - u + j) % 20)) (V j) := fun j j0 j1 => (b4 j j0 j1).fr F0 (fun c k z => Or.inl (by omega))
  rw [f14]
  refine k c h9 F9 ⟨f14, by omega, by rw [f15]; omega, fun j j0 j1 => ?_⟩ ?_
  · rw [f15, show ((fI h 0 15 + 20 - 1) % 20 + 20 - (u - 1) + j) % 20 = (fI h 0 15 + 20 - u + j) % 20 by omega]
    exact (R0 j j0 (by omega)).fr p9.1 (fun c k z => by omega)
  · have r := R0 (u - 1) (by omega) (by omega)
    rw [show (fI h 0 15 + 20 - u + (u - 1)) % 20 = (fI h 0 15 + 20 - 1) % 20 by omega] at r
    exact p9.2.rep r (V2 (u - 1) (by omega) (by omega))
