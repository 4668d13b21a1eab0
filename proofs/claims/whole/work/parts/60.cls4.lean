/-! THE CLASS: ruleOf, remember, undo. -/
/-- the cell of the rule in force -/
def rad (f n : Int) : Nat := if 0 ≤ f ∧ f < n then 16 + 5 * Int.toNat f else 47
-- OutwardDoors.ruleOf(I)LOutwardDoors$Rule; at 0
set_option maxRecDepth 20000 in
set_option maxHeartbeats 4000000 in
theorem r89_0 {X : Cst} {d : Nat} {x1 : Int} {pl : Nat} {h : AH} {Q : Post} (C_h : Lay h) (K_h_0 : PlanAt h pl) (P_h : hR h 52 0 = some pl)
  (w : (-2147483648 ≤ x1 ∧ x1 < 2147483648) ∧ ((x1 < 0 → Q (some (.ref 47)) h) ∧ (¬ x1 < 0 → ((fI h 0 13 ≤ x1 → Q (some (.ref 47)) h) ∧ (¬ fI h 0 13 ≤ x1 → (0 ≤ x1 ∧ x1 < 6) ∧ Q (some (.ref (16 + 5 * Int.toNat x1))) h))))) :
    Ex X PG (d + 1) 89 0 [some (.ref 0), some (.int (J x1))] [] h Q := by
  refine wpx_ok (cut := []) 12 d 89 0 _ _ _ _ ?_
  show (((J x1) < (J 0) → hs h 0 = (0, 10) ∧ ∃ q4, hR h 0 4 = some q4 ∧ Q (some (.ref q4)) h) ∧ (¬ ((J x1) < (J 0)) → hs h 0 = (0, 10) ∧ (((hF h 0 13) ≤ (J x1) → hs h 0 = (0, 10) ∧ ∃ q7, hR h 0 4 = some q7 ∧ Q (some (.ref q7)) h) ∧ (¬ ((hF h 0 13) ≤ (J x1)) → hs h 0 = (0, 10) ∧ ∃ q8, hR h 0 3 = some q8 ∧ 5 ≤ (hs h q8).1 ∧ ix (J x1) (hs h q8).2 ∧ ∃ q9, hR h q8 (Int32.toNatClampNeg (J x1)) = some q9 ∧ Q (some (.ref q9)) h))))
  try simp only [aI_wAL, fI_wAL, aL_wA, aL_wF, aI_wA_ne, aI_wF_ne, fI_wA_ne, fI_wF_ne, fI_wF_nk, aL_wAL_ne, J_sameA, J_sameF, aL_same, Nat.add_left_cancel_iff, Nat.add_eq_left, Nat.left_eq_add, not_false_eq_true, Nat.reduceEqDiff, Nat.reduceAdd, J_add, J_sub, J_mul, J_neg, J_and, J_or, J_xor, J_shl, J_shr, J_div, J_i2b, J_i2l, J_l2i, J_lcm, J_max, J_min, J_nab, J_nao, rdA, rdF, rdL, wA_fold, wF_fold, wL_fold, wC_fold]
  obtain ⟨k3, w⟩ := w
  refine ⟨fun c1 => ?_, fun c1 => ?_⟩
  · have t2 : x1 < 0 := ((Jlt k3 (by decide)).mp c1)
    replace w := w.1 t2
    refine ⟨(ls0 C_h), _, (lr0_4 C_h), ?_⟩
    exact w
  · have t2 : ¬ x1 < 0 := (fun e => c1 ((Jlt k3 (by decide)).mpr e))
    replace w := w.2 t2
    refine ⟨(ls0 C_h), ?_⟩
    refine ⟨fun c5 => ?_, fun c5 => ?_⟩
    · have t6 : fI h 0 13 ≤ x1 := ((Jle (rg_toInt _) k3).mp c5)
      replace w := w.1 t6
      refine ⟨(ls0 C_h), _, (lr0_4 C_h), ?_⟩
      exact w
    · have t6 : ¬ fI h 0 13 ≤ x1 := (fun e => c5 ((Jle (rg_toInt _) k3).mpr e))
      replace w := w.2 t6
      refine ⟨(ls0 C_h), _, (lr0_3 C_h), ?_⟩
      obtain ⟨k10, w⟩ := w
      have K_h_1 := Lay_e15 C_h k10
      refine ⟨h5o (ls15 C_h) (by decide), ixs (ls15 C_h) k10 (by decide), _, Lay_r15 C_h k10, ?_⟩
      exact w
theorem m89 {X : Cst} {d : Nat} {pl g : Nat} {f : Int} {h : AH} {Q : Post} (C : Lay h) (P : hR h 52 0 = some pl) (K : PlanAt h pl) (hd : 1 ≤ d) (e : g = rad f (fI h 0 13)) (hn : fI h 0 13 ≤ 6) (g1 : -2147483648 ≤ f ∧ f < 2147483648) (k : Q (some (.ref g)) h) : Ex X PG d 89 0 [some (.ref 0), some (.int (J f))] [] h Q := by
  obtain ⟨d, rfl⟩ : ∃ e, d = e + 1 := ⟨d - 1, by omega⟩
  unfold rad at e
  refine r89_0 C K P ⟨g1, fun c => ?_, fun c => ⟨fun c2 => ?_, fun c2 => ⟨by omega, ?_⟩⟩⟩
  · rw [if_neg (by omega)] at e; rw [e] at k; exact k
  · rw [if_neg (by omega)] at e; rw [e] at k; exact k
  · rw [if_pos (by omega)] at e; rw [e] at k; exact k
theorem imn_20 {u : Int} (h : 0 ≤ u ∧ u ≤ 20) : imn 20 (u + 1) = if u = 20 then 20 else u + 1 := by
  unfold imn
  by_cases c : u + 1 < 20
  · rw [if_pos ((Jlt (by omega) (by decide)).mpr c), if_neg (by omega)]; exact toInt_J (by omega)
  · rw [if_neg (fun z => c ((Jlt (by omega) (by decide)).mp z))]
    by_cases c2 : u = 20
    · rw [if_pos c2]; exact toInt_J (by decide)
    · rw [if_neg c2, show u + 1 = 20 by omega]; exact toInt_J (by decide)
/-- the past: a ring of twenty worlds; for j below u the j-th (oldest first) shows the said that V j is -/
def CP (h : AH) (u : Int) (V : Int → Int → Int) : Prop := fI h 0 14 = u ∧ (0 ≤ u ∧ u ≤ 20) ∧ (0 ≤ fI h 0 15 ∧ fI h 0 15 < 20) ∧ ∀ j, 0 ≤ j → j < u → WorldRep h (121 + 6 * Int.toNat ((fI h 0 15 + 20 - u + j) % 20)) (V j)
/-- an act more -/
def pshV (u : Int) (V : Int → Int → Int) (S : Int → Int) : Int → Int → Int := fun j => if j = (if u = 20 then 19 else u) then S else V (j + (if u = 20 then 1 else 0))
def pshU (u : Int) : Int := if u = 20 then 20 else u + 1
-- OutwardDoors.remember()V at 0
set_option maxRecDepth 20000 in
set_option maxHeartbeats 4000000 in
theorem r87_0 {X : Cst} {d : Nat} {pl : Nat} {h : AH} {Q : Post} (C_h : Lay h) (K_h_0 : PlanAt h pl) (P_h : hR h 52 0 = some pl) (hd : 1 ≤ d)
  (w : (0 ≤ fI h 0 15 ∧ fI h 0 15 < 20) ∧ ((121 + 6 * Int.toNat (fI h 0 15)) + 5 < 64 ∨ 64 + 5 < (121 + 6 * Int.toNat (fI h 0 15))) ∧ (∀ h7, SH h h7 → (Fr (fun c _ => (121 + 6 * Int.toNat (fI h 0 15)) ≤ c ∧ c ≤ (121 + 6 * Int.toNat (fI h 0 15)) + 5) h h7 ∧ WCopy h h7 (121 + 6 * Int.toNat (fI h 0 15)) 64) → Q none (wF (wF h7 0 15 (((fI h7 0 15) + 1) - idv ((fI h7 0 15) + 1) 20 * 20)) 0 14 (imn 20 ((fI h7 0 14) + 1))))) :
    Ex X PG (d + 1) 87 0 [some (.ref 0)] [] h Q := by
  refine wpx_ok (cut := []) 26 d 87 0 _ _ _ _ ?_
  show hs h 0 = (0, 10) ∧ ∃ q1, hR h 0 8 = some q1 ∧ hs h 0 = (0, 10) ∧ 5 ≤ (hs h q1).1 ∧ ix (hF h 0 15) (hs h q1).2 ∧ ∃ q2, hR h q1 (Int32.toNatClampNeg (hF h 0 15)) = some q2 ∧ hs h 0 = (0, 10) ∧ ∃ q4, hR h 0 5 = some q4 ∧ hs h q4 = (0, 6) ∧ ∃ q5, hR h q4 1 = some q5 ∧ hs h q2 = (0, 9) ∧ Ex X PG d 88 0 [some (.ref q2), some (.ref q5)] [] h (fun v6 h7 => v6 = none ∧ hs h7 0 = (0, 10) ∧ ¬ (J 20) = J 0 ∧ hs h7 0 = (0, 10) ∧ hs (wG h7 0 15 (((hF h7 0 15) + (J 1)) - ((hF h7 0 15) + (J 1)) / (J 20) * (J 20))) 0 = (0, 10) ∧ hs (wG h7 0 15 (((hF h7 0 15) + (J 1)) - ((hF h7 0 15) + (J 1)) / (J 20) * (J 20))) 0 = (0, 10) ∧ Q none (wG (wG h7 0 15 (((hF h7 0 15) + (J 1)) - ((hF h7 0 15) + (J 1)) / (J 20) * (J 20))) 0 14 (if ((hF (wG h7 0 15 (((hF h7 0 15) + (J 1)) - ((hF h7 0 15) + (J 1)) / (J 20) * (J 20))) 0 14) + (J 1)) < (J 20) then ((hF (wG h7 0 15 (((hF h7 0 15) + (J 1)) - ((hF h7 0 15) + (J 1)) / (J 20) * (J 20))) 0 14) + (J 1)) else (J 20))))
  try simp only [aI_wAL, fI_wAL, aL_wA, aL_wF, aI_wA_ne, aI_wF_ne, fI_wA_ne, fI_wF_ne, fI_wF_nk, aL_wAL_ne, J_sameA, J_sameF, aL_same, Nat.add_left_cancel_iff, Nat.add_eq_left, Nat.left_eq_add, not_false_eq_true, Nat.reduceEqDiff, Nat.reduceAdd, J_add, J_sub, J_mul, J_neg, J_and, J_or, J_xor, J_shl, J_shr, J_div, J_i2b, J_i2l, J_l2i, J_lcm, J_max, J_min, J_nab, J_nao, rdA, rdF, rdL, wA_fold, wF_fold, wL_fold, wC_fold]
  refine ⟨(ls0 C_h), _, (lr0_8 C_h), ?_⟩
  refine ⟨(ls0 C_h), ?_⟩
  obtain ⟨k3, w⟩ := w
  have K_h_1 := Lay_e120 C_h k3
  refine ⟨h5o (ls120 C_h) (by decide), ixs (ls120 C_h) k3 (by decide), _, Lay_r120 C_h k3, ?_⟩
  refine ⟨(ls0 C_h), _, (lr0_5 C_h), ?_⟩
  refine ⟨(ls52 C_h), _, (lr52_1 C_h), ?_⟩
  refine ⟨(world_0 K_h_1), ?_⟩
  obtain ⟨k8, w⟩ := w
  refine m88 (h := h) (a := (121 + 6 * Int.toNat (fI h 0 15))) (b := 64) C_h K_h_1 (WorldAt_64 C_h) (by omega) k8 ?_
  intro h7 s9 p10
  replace w := w h7 s9 p10
  refine ⟨rfl, ?_⟩
  have C_h7 := Lay_SH s9 C_h
  have K_h7_0 := PlanAt_SH s9 K_h_0
  have K_h7_1 := WorldAt_SH s9 K_h_1
  have P_h7 := (congrFun (congrFun s9.2 52) 0).trans P_h
  try simp only [aI_wAL, fI_wAL, aL_wA, aL_wF, aI_wA_ne, aI_wF_ne, fI_wA_ne, fI_wF_ne, fI_wF_nk, aL_wAL_ne, J_sameA, J_sameF, aL_same, Nat.add_left_cancel_iff, Nat.add_eq_left, Nat.left_eq_add, not_false_eq_true, Nat.reduceEqDiff, Nat.reduceAdd, J_add, J_sub, J_mul, J_neg, J_and, J_or, J_xor, J_shl, J_shr, J_div, J_i2b, J_i2l, J_l2i, J_lcm, J_max, J_min, J_nab, J_nao, rdA, rdF, rdL, wA_fold, wF_fold, wL_fold, wC_fold]
  refine ⟨(ls0 C_h7), ?_⟩
  refine ⟨by decide, ?_⟩
  refine ⟨(ls0 C_h7), ?_⟩
  refine ⟨(ls0 C_h7), ?_⟩
  refine ⟨(ls0 C_h7), ?_⟩
  exact w
theorem m87 {X : Cst} {d : Nat} {pl : Nat} {u : Int} {V : Int → Int → Int} {S : Int → Int} {h : AH} {Q : Post} (C : Lay h) (P : hR h 52 0 = some pl) (K : PlanAt h pl) (hd : 2 ≤ d) (R : WorldRep h 64 S) (W : WF 999 S) (B : CP h u V)
    (k : ∀ h', SH h h' → (Fr (fun c j => (121 ≤ c ∧ c ≤ 240) ∨ (c = 0 ∧ (j = 14 ∨ j = 15))) h h' ∧ CP h' (pshU u) (pshV u V S)) → Q none h') : Ex X PG d 87 0 [some (.ref 0)] [] h Q := by
  obtain ⟨d, rfl⟩ : ∃ e, d = e + 1 := ⟨d - 1, by omega⟩
  have b := W.1
  unfold WFb at b
  obtain ⟨b1, b2, b3, b4⟩ := B
  refine r87_0 C K P (by omega) ⟨by omega, by omega, fun h7 s7 p7 => ?_⟩
  have f15 : fI h7 0 15 = fI h 0 15 := p7.1.f 0 15 (by omega)
  have f14 : fI h7 0 14 = u := by rw [p7.1.f 0 14 (by omega)]; exact b1
  rw [f15, f14, imn_20 b2, rem_nn (by omega) (by decide)]
  have F : Fr (fun c j => (121 ≤ c ∧ c ≤ 240) ∨ (c = 0 ∧ (j = 14 ∨ j = 15))) h (wF (wF h7 0 15 ((fI h 0 15 + 1) % 20)) 0 14 (if u = 20 then 20 else u + 1)) := ((p7.1.mo fun c k z => Or.inl (by omega)).wF (Or.inr ⟨rfl, Or.inr rfl⟩)).wF (Or.inr ⟨rfl, Or.inl rfl⟩)
  have ub : (0 ≤ (if u = 20 then 20 else u + 1) ∧ (if u = 20 then 20 else u + 1) ≤ 20) := by split <;> omega
  have g15 : fI (wF (wF h7 0 15 ((fI h 0 15 + 1) % 20)) 0 14 (if u = 20 then 20 else u + 1)) 0 15 = (fI h 0 15 + 1) % 20 := by rw [fI_wF_nk (by decide), fI_wF_eq (by omega)]
  refine k _ F.1 ⟨F, ?_, ub, by rw [g15]; omega, fun j j0 j1 => ?_⟩
  · rw [fI_wF_eq (by omega)]; rfl
  · rw [g15]
    have F2 : Fr (fun c j => c = 0) h7 (wF (wF h7 0 15 ((fI h 0 15 + 1) % 20)) 0 14 (if u = 20 then 20 else u + 1)) := ((Fr.rf (T := fun c j => c = 0)).wF rfl).wF rfl
    refine WorldRep.fr ?_ F2 (fun c k z => Or.inl (by omega))
    unfold pshU at j1 ⊢
    unfold pshV
    by_cases top : j = (if u = 20 then 19 else u)
    · rw [if_pos top]
      have ei : ((fI h 0 15 + 1) % 20 + 20 - (if u = 20 then 20 else u + 1) + j) % 20 = fI h 0 15 := by
        rw [top]; by_cases c : u = 20
        · rw [if_pos c, if_pos c]; omega
        · rw [if_neg c, if_neg c]; omega
      rw [ei]
      exact p7.2.rep R (by omega)
    · rw [if_neg top]
      have jl : j + (if u = 20 then 1 else 0) < u := by
        by_cases c : u = 20
        · rw [if_pos c] at j1 top ⊢; omega
        · rw [if_neg c] at j1 top ⊢; omega
      have ei : ((fI h 0 15 + 1) % 20 + 20 - (if u = 20 then 20 else u + 1) + j) % 20 = (fI h 0 15 + 20 - u + (j + (if u = 20 then 1 else 0))) % 20 := by
        by_cases c : u = 20
        · rw [if_pos c, if_pos c]; omega
        · rw [if_neg c, if_neg c]; omega
      rw [ei]
      have jn : 0 ≤ j + (if u = 20 then 1 else 0) := by split <;> omega
      refine (b4 _ jn jl).fr p7.1 (fun c k z => ?_)
      have ne : ¬ (fI h 0 15 + 20 - u + (j + (if u = 20 then 1 else 0))) % 20 = fI h 0 15 := by
        by_cases c : u = 20
        · rw [if_pos c] at jl ⊢; omega
        · rw [if_neg c] at jl ⊢; omega
      omega
