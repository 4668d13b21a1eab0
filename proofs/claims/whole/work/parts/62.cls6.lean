/-! THE CLASS: its rules; moment. -/
def R1 : Ru := (1, fun _ => 1, fun _ => 1, fun _ => 0, fun _ => 1)
theorem R1_OK : RuleOK R1 := by
  refine ⟨⟨by decide, by decide⟩, fun c h0 h1 => ?_⟩
  have e : c = 0 := by have : nC R1 = 1 := rfl; omega
  subst e
  refine ⟨⟨by decide, by decide, by decide, by decide⟩, ⟨by decide, by decide⟩, fun z => absurd rfl z, fun j j0 j1 => ⟨⟨Int.le_refl 0, by show (0:Int) < 16; decide⟩, ⟨by show (0:Int) ≤ 1; decide, by show (1:Int) < 100000; decide⟩, fun z => absurd (show (0:Int) = 1 from z) (by decide)⟩⟩
theorem R1_wl (w : Int → Int64) : wl R1 w = 1 := by
  show wlr R1 w 1 0 = 1
  unfold wlr
  rw [if_pos (Or.inl (show sE R1 0 = tE R1 0 from rfl))]
  show (ev (oP R1) (aR R1) w 1 0 []).headD 0 = 1
  show (ev1 0 1 w []).headD 0 = 1
  unfold ev1
  rw [if_pos rfl]
  decide
noncomputable def ruR (f : Int) (Rs : Int → Ru) : Ru := if f < 0 then R1 else Rs f
theorem DR_wdo (S : Int → Int) (f : Int) (Rs : Int → Ru) : DR S (ruR f Rs) = wdo S f Rs := by
  funext p
  unfold DR wdo wv ruR
  by_cases c : f < 0
  · rw [if_pos c, if_pos c, R1_wl]
  · rw [if_neg c, if_neg c]
def CU (h : AH) (n : Int) (Rs : Int → Ru) : Prop := fI h 0 13 = n ∧ (0 ≤ n ∧ n ≤ 6) ∧ ClsRule h 47 R1 ∧ ∀ k, 0 ≤ k → k < n → ClsRule h (16 + 5 * Int.toNat k) (Rs k) ∧ RuleOK (Rs k)
theorem CU.fr {T : Nat → Nat → Prop} {h h' : AH} {n : Int} {Rs : Int → Ru} (x : CU h n Rs) (F : Fr T h h') (t0 : ¬ T 0 13) (t : ∀ c k, T c k → 16 ≤ c → c ≤ 51 → c = 20 ∨ c = 25 ∨ c = 30 ∨ c = 35 ∨ c = 40 ∨ c = 45 ∨ c = 51 ∨ c = 46) : CU h' n Rs := by
  obtain ⟨a, b, c, d⟩ := x
  refine ⟨by rw [F.f 0 13 t0]; exact a, b, c.fr F (fun c k z => ?_), fun k k0 k1 => ⟨(d k k0 k1).1.fr F (fun c k' z => ?_), (d k k0 k1).2⟩⟩
  · by_cases q : 16 ≤ c ∧ c ≤ 51
    · have := t c k z q.1 q.2; omega
    · omega
  · by_cases q : 16 ≤ c ∧ c ≤ 51
    · have := t c k' z q.1 q.2
      have : k = 0 ∨ k = 1 ∨ k = 2 ∨ k = 3 ∨ k = 4 ∨ k = 5 := by omega
      rcases this with rfl | rfl | rfl | rfl | rfl | rfl <;> omega
    · omega
/-- the rule in force stands in its cell -/
theorem CU.at {h : AH} {n f : Int} {Rs : Int → Ru} (C : Lay h) (x : CU h n Rs) (hf : f < n) : RuleAt h (rad f n) ∧ ClsRule h (rad f n) (ruR f Rs) ∧ RuleOK (ruR f Rs) ∧ ((16 ≤ rad f n ∧ rad f n ≤ 41) ∨ rad f n = 47) ∧ (rad f n = 16 ∨ rad f n = 21 ∨ rad f n = 26 ∨ rad f n = 31 ∨ rad f n = 36 ∨ rad f n = 41 ∨ rad f n = 47) := by
  obtain ⟨a, b, c, d⟩ := x
  unfold rad ruR
  by_cases q : f < 0
  · rw [if_neg (by omega), if_pos q]
    exact ⟨RuleAt_47 C, c, R1_OK, Or.inr rfl, by omega⟩
  · rw [if_pos (by omega), if_neg q]
    have : f = 0 ∨ f = 1 ∨ f = 2 ∨ f = 3 ∨ f = 4 ∨ f = 5 := by omega
    refine ⟨Lay_e15 C (by omega), (d f (by omega) hf).1, (d f (by omega) hf).2, ?_, ?_⟩ <;> rcases this with rfl | rfl | rfl | rfl | rfl | rfl <;> decide
def TMo (c k : Nat) : Prop := (121 ≤ c ∧ c ≤ 240) ∨ (c = 0 ∧ (k = 14 ∨ k = 15)) ∨ (64 ≤ c ∧ c ≤ 69) ∨ (242 ≤ c ∧ c ≤ 246) ∨ (c = 241 ∧ (k = 5 ∨ k = 6)) ∨ c = 20 ∨ c = 25 ∨ c = 30 ∨ c = 35 ∨ c = 40 ∨ c = 45 ∨ c = 51
-- OutwardDoors.moment()I at 0
set_option maxRecDepth 20000 in
set_option maxHeartbeats 4000000 in
theorem r85_0 {X : Cst} {d : Nat} {pl : Nat} {g : Nat} {S : Int → Int} {V : Int → Int → Int} {u : Int} {h : AH} {Q : Post} (C_h : Lay h) (K_h_0 : PlanAt h pl) (K_h_1 : RuleAt h g) (P_h : hR h 52 0 = some pl) (hd : 2 ≤ d)
  (w : (CS h pl S) ∧ ((¬ (0 < S 0) → Q (some (.int (J (-1)))) h) ∧ ((0 < S 0) → ((fI h 64 5 < 999 → (WorldRep h 64 S) ∧ (WF 999 S) ∧ (CP h u V) ∧ (∀ h12, SH h h12 → (Fr (fun c j => (121 ≤ c ∧ c ≤ 240) ∨ (c = 0 ∧ (j = 14 ∨ j = 15))) h h12 ∧ CP h12 (pshU u) (pshV u V S)) → (g = rad (fI h12 52 2) (fI h12 0 13)) ∧ (fI h12 0 13 ≤ 6) ∧ (-2147483648 ≤ (fI h12 52 2) ∧ (fI h12 52 2) < 2147483648) ∧ Ex X PG d 90 0 [some (.ref 241), some (.ref pl), some (.ref 64), some (.ref g), none, none] [] h12 (fun v28 h29 => v28 = none ∧ SH h12 h29 ∧ Q (some (.int (J ((fI h29 241 5) + (fI h29 241 6))))) h29))) ∧ (¬ fI h 64 5 < 999 → Q (some (.int (J (-1)))) h))))) :
    Ex X PG (d + 1) 85 0 [some (.ref 0)] [] h Q := by
  refine wpx_ok (cut := []) 33 d 85 0 _ _ _ _ ?_
  show hs h 0 = (0, 10) ∧ Ex X PG d 86 0 [some (.ref 0)] [] h (fun v1 h2 => ∃ r3, v1 = some (.int r3) ∧ ((r3 = (J 0) → Q (some (.int (J (-1)))) h2) ∧ (¬ (r3 = (J 0)) → hs h2 0 = (0, 10) ∧ ∃ q7, hR h2 0 5 = some q7 ∧ hs h2 q7 = (0, 6) ∧ ∃ q8, hR h2 q7 1 = some q8 ∧ hs h2 q8 = (0, 9) ∧ (((hF h2 q8 5) < (J 999) → hs h2 0 = (0, 10) ∧ Ex X PG d 87 0 [some (.ref 0)] [] h2 (fun v11 h12 => v11 = none ∧ hs h12 0 = (0, 10) ∧ ∃ q16, hR h12 0 9 = some q16 ∧ hs h12 0 = (0, 10) ∧ ∃ q17, hR h12 0 5 = some q17 ∧ hs h12 q17 = (0, 6) ∧ ∃ q18, hR h12 q17 0 = some q18 ∧ hs h12 0 = (0, 10) ∧ ∃ q19, hR h12 0 5 = some q19 ∧ hs h12 q19 = (0, 6) ∧ ∃ q20, hR h12 q19 1 = some q20 ∧ hs h12 0 = (0, 10) ∧ ∃ q21, hR h12 0 5 = some q21 ∧ hs h12 q21 = (0, 6) ∧ hs h12 0 = (0, 10) ∧ Ex X PG d 89 0 [some (.ref 0), some (.int (hF h12 q21 2))] [] h12 (fun v22 h23 => ∃ r24, v22 = some (.ref r24) ∧ hs h23 q16 = (0, 1) ∧ Ex X PG d 90 0 [some (.ref q16), some (.ref q18), some (.ref q20), some (.ref r24), none, none] [] h23 (fun v28 h29 => v28 = none ∧ hs h29 0 = (0, 10) ∧ ∃ q30, hR h29 0 9 = some q30 ∧ hs h29 q30 = (0, 1) ∧ hs h29 0 = (0, 10) ∧ ∃ q31, hR h29 0 9 = some q31 ∧ hs h29 q31 = (0, 1) ∧ Q (some (.int ((hF h29 q30 5) + (hF h29 q31 6)))) h29)))) ∧ (¬ ((hF h2 q8 5) < (J 999)) → Q (some (.int (J (-1)))) h2)))))
  try simp only [aI_wAL, fI_wAL, aL_wA, aL_wF, aI_wA_ne, aI_wF_ne, fI_wA_ne, fI_wF_ne, fI_wF_nk, aL_wAL_ne, J_sameA, J_sameF, aL_same, Nat.add_left_cancel_iff, Nat.add_eq_left, Nat.left_eq_add, not_false_eq_true, Nat.reduceEqDiff, Nat.reduceAdd, J_add, J_sub, J_mul, J_neg, J_and, J_or, J_xor, J_shl, J_shr, J_div, J_i2b, J_i2l, J_l2i, J_lcm, J_max, J_min, J_nab, J_nao, rdA, rdF, rdL, wA_fold, wF_fold, wL_fold, wC_fold]
  refine ⟨(ls0 C_h), ?_⟩
  obtain ⟨k4, w⟩ := w
  refine m86 (h := h)  (S := S) (pl := pl) C_h P_h K_h_0 (by omega) k4 ?_
  refine ⟨_, rfl, ?_⟩
  try simp only [aI_wAL, fI_wAL, aL_wA, aL_wF, aI_wA_ne, aI_wF_ne, fI_wA_ne, fI_wF_ne, fI_wF_nk, aL_wAL_ne, J_sameA, J_sameF, aL_same, Nat.add_left_cancel_iff, Nat.add_eq_left, Nat.left_eq_add, not_false_eq_true, Nat.reduceEqDiff, Nat.reduceAdd, J_add, J_sub, J_mul, J_neg, J_and, J_or, J_xor, J_shl, J_shr, J_div, J_i2b, J_i2l, J_l2i, J_lcm, J_max, J_min, J_nab, J_nao, rdA, rdF, rdL, wA_fold, wF_fold, wL_fold, wC_fold]
  refine ⟨fun c5 => ?_, fun c5 => ?_⟩
  · have t6 : ¬ (0 < S 0) := ((bI0 _).mp c5)
    replace w := w.1 t6
    exact w
  · have t6 : (0 < S 0) := (Classical.byContradiction fun n => c5 ((bI0 _).mpr n))
    replace w := w.2 t6
    refine ⟨(ls0 C_h), _, (lr0_5 C_h), ?_⟩
    refine ⟨(ls52 C_h), _, (lr52_1 C_h), ?_⟩
    refine ⟨(ls64 C_h), ?_⟩
    refine ⟨fun c9 => ?_, fun c9 => ?_⟩
    · have t10 : fI h 64 5 < 999 := ((Jlt (rg_toInt _) (by decide)).mp c9)
      replace w := w.1 t10
      refine ⟨(ls0 C_h), ?_⟩
      obtain ⟨k13, w⟩ := w
      obtain ⟨k14, w⟩ := w
      obtain ⟨k15, w⟩ := w
      refine m87 (h := h)  (S := S) (pl := pl) (u := u) (V := V) C_h P_h K_h_0 (by omega) k13 k14 k15 ?_
      intro h12 s33 p34
      replace w := w h12 s33 p34
      refine ⟨rfl, ?_⟩
      have C_h12 := Lay_SH s33 C_h
      have K_h12_0 := PlanAt_SH s33 K_h_0
      have K_h12_1 := RuleAt_SH s33 K_h_1
      have P_h12 := (congrFun (congrFun s33.2 52) 0).trans P_h
      try simp only [aI_wAL, fI_wAL, aL_wA, aL_wF, aI_wA_ne, aI_wF_ne, fI_wA_ne, fI_wF_ne, fI_wF_nk, aL_wAL_ne, J_sameA, J_sameF, aL_same, Nat.add_left_cancel_iff, Nat.add_eq_left, Nat.left_eq_add, not_false_eq_true, Nat.reduceEqDiff, Nat.reduceAdd, J_add, J_sub, J_mul, J_neg, J_and, J_or, J_xor, J_shl, J_shr, J_div, J_i2b, J_i2l, J_l2i, J_lcm, J_max, J_min, J_nab, J_nao, rdA, rdF, rdL, wA_fold, wF_fold, wL_fold, wC_fold]
      refine ⟨(ls0 C_h12), _, (lr0_9 C_h12), ?_⟩
      refine ⟨(ls0 C_h12), _, (lr0_5 C_h12), ?_⟩
      refine ⟨(ls52 C_h12), _, P_h12, ?_⟩
      refine ⟨(ls0 C_h12), _, (lr0_5 C_h12), ?_⟩
      refine ⟨(ls52 C_h12), _, (lr52_1 C_h12), ?_⟩
      refine ⟨(ls0 C_h12), _, (lr0_5 C_h12), ?_⟩
      refine ⟨(ls52 C_h12), ?_⟩
      refine ⟨(ls0 C_h12), ?_⟩
      obtain ⟨k25, w⟩ := w
      obtain ⟨k26, w⟩ := w
      obtain ⟨k27, w⟩ := w
      refine m89 (h := h12) (f := (fI h12 52 2)) (pl := pl) (g := g) C_h12 P_h12 K_h12_0 (by omega) k25 k26 k27 ?_
      refine ⟨_, rfl, ?_⟩
      try simp only [aI_wAL, fI_wAL, aL_wA, aL_wF, aI_wA_ne, aI_wF_ne, fI_wA_ne, fI_wF_ne, fI_wF_nk, aL_wAL_ne, J_sameA, J_sameF, aL_same, Nat.add_left_cancel_iff, Nat.add_eq_left, Nat.left_eq_add, not_false_eq_true, Nat.reduceEqDiff, Nat.reduceAdd, J_add, J_sub, J_mul, J_neg, J_and, J_or, J_xor, J_shl, J_shr, J_div, J_i2b, J_i2l, J_l2i, J_lcm, J_max, J_min, J_nab, J_nao, rdA, rdF, rdL, wA_fold, wF_fold, wL_fold, wC_fold]
      refine ⟨(ls241 C_h12), ?_⟩
      refine Ex.mono w (Nat.le_refl _) ?_
      rintro v28 h29 ⟨rfl, s32, w⟩
      refine ⟨rfl, ?_⟩
      have C_h29 := Lay_SH s32 C_h12
      have K_h29_0 := PlanAt_SH s32 K_h12_0
      have K_h29_1 := RuleAt_SH s32 K_h12_1
      have P_h29 := (congrFun (congrFun s32.2 52) 0).trans P_h12
      try simp only [aI_wAL, fI_wAL, aL_wA, aL_wF, aI_wA_ne, aI_wF_ne, fI_wA_ne, fI_wF_ne, fI_wF_nk, aL_wAL_ne, J_sameA, J_sameF, aL_same, Nat.add_left_cancel_iff, Nat.add_eq_left, Nat.left_eq_add, not_false_eq_true, Nat.reduceEqDiff, Nat.reduceAdd, J_add, J_sub, J_mul, J_neg, J_and, J_or, J_xor, J_shl, J_shr, J_div, J_i2b, J_i2l, J_l2i, J_lcm, J_max, J_min, J_nab, J_nao, rdA, rdF, rdL, wA_fold, wF_fold, wL_fold, wC_fold]
      refine ⟨(ls0 C_h29), _, (lr0_9 C_h29), ?_⟩
      refine ⟨(ls241 C_h29), ?_⟩
      refine ⟨(ls0 C_h29), _, (lr0_9 C_h29), ?_⟩
      refine ⟨(ls241 C_h29), ?_⟩
      exact w
    · have t10 : ¬ fI h 64 5 < 999 := (fun e => c9 ((Jlt (rg_toInt _) (by decide)).mpr e))
      replace w := w.2 t10
      exact w
theorem m85 {X : Cst} {d : Nat} {pl : Nat} {u f n : Int} {V : Int → Int → Int} {Rs : Int → Ru} {S : Int → Int} {h : AH} {Q : Post} (C : Lay h) (P : hR h 52 0 = some pl) (K : PlanAt h pl) (hd : 6 ≤ d) (R : CS h pl S) (W : WF 998 S) (B : CP h u V) (U : CU h n Rs) (ef : fI h 52 2 = f) (hf : -1 ≤ f ∧ f < n)
    (k0 : ¬ 0 < S 0 → Q (some (.int (J (-1)))) h)
    (k : 0 < S 0 → ∀ h', Fr TMo h h' → CP h' (pshU u) (pshV u V S) → WorldRep h' 64 (mo1 f Rs S) → Q (some (.int (J (momN S (wdo S f Rs))))) h') : Ex X PG d 85 0 [some (.ref 0)] [] h Q := by
  obtain ⟨d, rfl⟩ : ∃ e, d = e + 1 := ⟨d - 1, by omega⟩
  have W9 := W.up (M := 999) (by decide)
  have b := W.1
  unfold WFb at b
  obtain ⟨M, cr, ok, ap, ap2⟩ := U.at C hf.2
  refine r85_0 (S := S) (u := u) (V := V) C K M P (by omega) ?_
  rw [R.2.2.1.2.2]
  refine ⟨R, fun c => k0 c, fun c => ⟨fun c2 => ⟨R.2.2.1, W9, B, fun h12 s12 p12 => ?_⟩, fun c2 => absurd (by omega) c2⟩⟩
  have e13 : fI h12 0 13 = n := by rw [p12.1.f 0 13 (by omega)]; exact U.1
  have e52 : fI h12 52 2 = f := by rw [p12.1.f 52 2 (by omega)]; exact ef
  rw [e13, e52]
  have un := U.2.1
  refine ⟨rfl, un.2, by omega, ?_⟩
  have F12 : Fr TMo h h12 := p12.1.mo fun c k z => by unfold TMo; omega
  refine m90 (R := ruR f Rs) (S := S) (Lay_SH s12 C) (PlanAt_SH s12 K) (WorldAt_64 (Lay_SH s12 C)) (RuleAt_SH s12 M) (by have := R.1; omega) (Or.inl rfl) ap (by omega) (R.2.1.fr p12.1 (fun c k z => by have := R.1; omega)) (R.2.2.1.fr p12.1 (fun c k z => by omega)) W ok (cr.fr p12.1 (fun c k z => by omega)) (fun h29 s29 p29 => ⟨rfl, s29, ?_⟩)
  rw [p29.2.2.1, p29.2.2.2, DR_wdo]
  rw [DR_wdo] at p29
  have F29 : Fr TMo h h29 := F12.tr (p29.1.mo fun c k z => by unfold TM at z; unfold TMo; omega)
  rw [show cnt (cmI S (wdo S f Rs)) (S 2) + cnt (gO S (wdo S f Rs)) (S 2) = momN S (wdo S f Rs) from Int.add_comm _ _]
  refine k c h29 F29 ?_ p29.2.1
  obtain ⟨c1, c3, c4, c5⟩ := p12.2
  refine ⟨by rw [p29.1.f 0 14 (fun z => by unfold TM at z; omega)]; exact c1, c3, by rw [p29.1.f 0 15 (fun z => by unfold TM at z; omega)]; exact c4, fun j j0 j1 => ?_⟩
  rw [p29.1.f 0 15 (fun z => by unfold TM at z; omega)]
  exact (c5 j j0 j1).fr p29.1 (fun c k z => by unfold TM at z; omega)
