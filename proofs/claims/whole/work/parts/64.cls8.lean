/-! THE CLASS: ahead, comes, days. -/
def TAh (c k : Nat) : Prop := (114 ≤ c ∧ c ≤ 119) ∨ (242 ≤ c ∧ c ≤ 246) ∨ (c = 241 ∧ (k = 5 ∨ k = 6)) ∨ c = 20 ∨ c = 25 ∨ c = 30 ∨ c = 35 ∨ c = 40 ∨ c = 45 ∨ c = 51
theorem hR_fr {T : Nat → Nat → Prop} {h h' : AH} (F : Fr T h h') {c k : Nat} {v : Option Nat} (P : hR h c k = v) : hR h' c k = v := by rw [← P, F.1.2]
/-- a MOMENT on the world tried out, by the rule in force -/
theorem m90t {X : Cst} {d : Nat} {pl g : Nat} {f n : Int} {Rs : Int → Ru} {S U : Int → Int} {h h' : AH} {Q : Post} (C : Lay h) (K : PlanAt h pl) (hd : 5 ≤ d) (apa : pl = 4 ∨ pl = 53 ∨ 281 ≤ pl) (P : PlanRep h pl S) (W0 : WF 999 S) (B : CU h n Rs) (hf : -1 ≤ f ∧ f < n) (eg : g = rad f n) (F : Fr TAh h h') (s : Stat S U) (V : WorldRep h' 114 U) (W : WF 998 U)
    (k : ∀ h'', Fr TAh h' h'' → WorldRep h'' 114 (mo1 f Rs U) → fI h'' 241 5 = cnt (cmI U (wdo U f Rs)) (U 2) → fI h'' 241 6 = cnt (gO U (wdo U f Rs)) (U 2) → Q none h'') : Ex X PG d 90 0 [some (.ref 241), some (.ref pl), some (.ref 114), some (.ref g), none, none] [] h' Q := by
  subst eg
  obtain ⟨M, cr, ok, ap, ap2⟩ := B.at C hf.2
  refine m90 (R := ruR f Rs) (S := U) (F.C C) (PlanAt_SH F.1 K) (WorldAt_114 (F.C C)) (RuleAt_SH F.1 M) (by omega) (Or.inr rfl) ap hd ((P.stat W0 s).fr F (fun c k z => by unfold TAh at z; omega)) V W ok (cr.fr F (fun c k z => by unfold TAh at z; omega)) (fun h29 s29 p29 => ?_)
  rw [DR_wdo] at p29
  exact k h29 (p29.1.mo fun c k z => by unfold TM at z; unfold TAh; omega) p29.2.1 p29.2.2.1 p29.2.2.2
theorem CU.rg {h : AH} {n : Int} {Rs : Int → Ru} (B : CU h n Rs) : 0 ≤ n ∧ n ≤ 6 := B.2.1
-- OutwardDoors.ahead(II)I at 0
set_option maxRecDepth 20000 in
set_option maxHeartbeats 4000000 in
theorem r109_0 {X : Cst} {d : Nat} {x1 : Int} {x2 : Int} {pl : Nat} {g : Nat} {S : Int → Int} {h : AH} {Q : Post} (C_h : Lay h) (K_h_0 : PlanAt h pl) (K_h_1 : RuleAt h g) (P_h : hR h 52 0 = some pl) (hd : 1 ≤ d)
  (w : (CS h pl S) ∧ (-2147483648 ≤ x1 ∧ x1 < 2147483648) ∧ ((¬ (0 ≤ x1 ∧ x1 < S 2) → Q (some (.int (J (-1)))) h) ∧ ((0 ≤ x1 ∧ x1 < S 2) → (-2147483648 ≤ x2 ∧ x2 < 2147483648) ∧ ((x2 < 0 → Q (some (.int (J (-1)))) h) ∧ (¬ x2 < 0 → ((x2 ≤ 100 → (114 + 5 < 64 ∨ 64 + 5 < 114) ∧ (∀ h17, SH h h17 → (Fr (fun c _ => 114 ≤ c ∧ c ≤ 114 + 5) h h17 ∧ WCopy h h17 114 64) → (g = rad (fI h17 52 2) (fI h17 0 13)) ∧ (fI h17 0 13 ≤ 6) ∧ (-2147483648 ≤ (fI h17 52 2) ∧ (fI h17 52 2) < 2147483648) ∧ Ex X PG (d + 1) 109 49 [some (.ref 0), some (.int (J x1)), some (.int (J x2)), some (.ref g), some (.int (J 0))] [] h17 Q)) ∧ (¬ x2 ≤ 100 → Q (some (.int (J (-1)))) h))))))) :
    Ex X PG (d + 1) 109 0 [some (.ref 0), some (.int (J x1)), some (.int (J x2)), none, none] [] h Q := by
  refine wpx_ok (cut := [49]) 23 d 109 0 _ _ _ _ ?_
  show hs h 0 = (0, 10) ∧ Ex X PG d 75 0 [some (.ref 0), some (.int (J x1))] [] h (fun v1 h2 => ∃ r3, v1 = some (.int r3) ∧ ((r3 = (J 0) → Q (some (.int (J (-1)))) h2) ∧ (¬ (r3 = (J 0)) → (((J x2) < (J 0) → Q (some (.int (J (-1)))) h2) ∧ (¬ ((J x2) < (J 0)) → (((J x2) ≤ (J 100) → hs h2 0 = (0, 10) ∧ ∃ q13, hR h2 0 7 = some q13 ∧ hs h2 0 = (0, 10) ∧ ∃ q14, hR h2 0 5 = some q14 ∧ hs h2 q14 = (0, 6) ∧ ∃ q15, hR h2 q14 1 = some q15 ∧ hs h2 q13 = (0, 9) ∧ Ex X PG d 88 0 [some (.ref q13), some (.ref q15)] [] h2 (fun v16 h17 => v16 = none ∧ hs h17 0 = (0, 10) ∧ ∃ q19, hR h17 0 5 = some q19 ∧ hs h17 q19 = (0, 6) ∧ hs h17 0 = (0, 10) ∧ Ex X PG d 89 0 [some (.ref 0), some (.int (hF h17 q19 2))] [] h17 (fun v20 h21 => ∃ r22, v20 = some (.ref r22) ∧ Ex X PG (d + 1) 109 49 [some (.ref 0), some (.int (J x1)), some (.int (J x2)), some (.ref r22), some (.int (J 0))] [] h21 Q))) ∧ (¬ ((J x2) ≤ (J 100)) → Q (some (.int (J (-1)))) h2)))))))
  try simp only [aI_wAL, fI_wAL, aL_wA, aL_wF, aI_wA_ne, aI_wF_ne, fI_wA_ne, fI_wF_ne, fI_wF_nk, aL_wAL_ne, J_sameA, J_sameF, aL_same, Nat.add_left_cancel_iff, Nat.add_eq_left, Nat.left_eq_add, not_false_eq_true, Nat.reduceEqDiff, Nat.reduceAdd, J_add, J_sub, J_mul, J_neg, J_and, J_or, J_xor, J_shl, J_shr, J_div, J_i2b, J_i2l, J_l2i, J_lcm, J_max, J_min, J_nab, J_nao, rdA, rdF, rdL, wA_fold, wF_fold, wL_fold, wC_fold]
  refine ⟨(ls0 C_h), ?_⟩
  obtain ⟨k4, w⟩ := w
  obtain ⟨k5, w⟩ := w
  refine m75 (h := h) (x := x1) (S := S) (pl := pl) C_h P_h K_h_0 (by omega) k4 k5 ?_
  refine ⟨_, rfl, ?_⟩
  try simp only [aI_wAL, fI_wAL, aL_wA, aL_wF, aI_wA_ne, aI_wF_ne, fI_wA_ne, fI_wF_ne, fI_wF_nk, aL_wAL_ne, J_sameA, J_sameF, aL_same, Nat.add_left_cancel_iff, Nat.add_eq_left, Nat.left_eq_add, not_false_eq_true, Nat.reduceEqDiff, Nat.reduceAdd, J_add, J_sub, J_mul, J_neg, J_and, J_or, J_xor, J_shl, J_shr, J_div, J_i2b, J_i2l, J_l2i, J_lcm, J_max, J_min, J_nab, J_nao, rdA, rdF, rdL, wA_fold, wF_fold, wL_fold, wC_fold]
  refine ⟨fun c6 => ?_, fun c6 => ?_⟩
  · have t7 : ¬ (0 ≤ x1 ∧ x1 < S 2) := ((bI0 _).mp c6)
    replace w := w.1 t7
    exact w
  · have t7 : (0 ≤ x1 ∧ x1 < S 2) := (Classical.byContradiction fun n => c6 ((bI0 _).mpr n))
    replace w := w.2 t7
    obtain ⟨k10, w⟩ := w
    refine ⟨fun c8 => ?_, fun c8 => ?_⟩
    · have t9 : x2 < 0 := ((Jlt k10 (by decide)).mp c8)
      replace w := w.1 t9
      exact w
    · have t9 : ¬ x2 < 0 := (fun e => c8 ((Jlt k10 (by decide)).mpr e))
      replace w := w.2 t9
      refine ⟨fun c11 => ?_, fun c11 => ?_⟩
      · have t12 : x2 ≤ 100 := ((Jle k10 (by decide)).mp c11)
        replace w := w.1 t12
        refine ⟨(ls0 C_h), _, (lr0_7 C_h), ?_⟩
        refine ⟨(ls0 C_h), _, (lr0_5 C_h), ?_⟩
        refine ⟨(ls52 C_h), _, (lr52_1 C_h), ?_⟩
        refine ⟨(ls114 C_h), ?_⟩
        obtain ⟨k18, w⟩ := w
        refine m88 (h := h) (a := 114) (b := 64) C_h (WorldAt_114 C_h) (WorldAt_64 C_h) (by omega) k18 ?_
        intro h17 s26 p27
        replace w := w h17 s26 p27
        refine ⟨rfl, ?_⟩
        have C_h17 := Lay_SH s26 C_h
        have K_h17_0 := PlanAt_SH s26 K_h_0
        have K_h17_1 := RuleAt_SH s26 K_h_1
        have P_h17 := (congrFun (congrFun s26.2 52) 0).trans P_h
        try simp only [aI_wAL, fI_wAL, aL_wA, aL_wF, aI_wA_ne, aI_wF_ne, fI_wA_ne, fI_wF_ne, fI_wF_nk, aL_wAL_ne, J_sameA, J_sameF, aL_same, Nat.add_left_cancel_iff, Nat.add_eq_left, Nat.left_eq_add, not_false_eq_true, Nat.reduceEqDiff, Nat.reduceAdd, J_add, J_sub, J_mul, J_neg, J_and, J_or, J_xor, J_shl, J_shr, J_div, J_i2b, J_i2l, J_l2i, J_lcm, J_max, J_min, J_nab, J_nao, rdA, rdF, rdL, wA_fold, wF_fold, wL_fold, wC_fold]
        refine ⟨(ls0 C_h17), _, (lr0_5 C_h17), ?_⟩
        refine ⟨(ls52 C_h17), ?_⟩
        refine ⟨(ls0 C_h17), ?_⟩
        obtain ⟨k23, w⟩ := w
        obtain ⟨k24, w⟩ := w
        obtain ⟨k25, w⟩ := w
        refine m89 (h := h17) (f := (fI h17 52 2)) (pl := pl) (g := g) C_h17 P_h17 K_h17_0 (by omega) k23 k24 k25 ?_
        refine ⟨_, rfl, ?_⟩
        try simp only [aI_wAL, fI_wAL, aL_wA, aL_wF, aI_wA_ne, aI_wF_ne, fI_wA_ne, fI_wF_ne, fI_wF_nk, aL_wAL_ne, J_sameA, J_sameF, aL_same, Nat.add_left_cancel_iff, Nat.add_eq_left, Nat.left_eq_add, not_false_eq_true, Nat.reduceEqDiff, Nat.reduceAdd, J_add, J_sub, J_mul, J_neg, J_and, J_or, J_xor, J_shl, J_shr, J_div, J_i2b, J_i2l, J_l2i, J_lcm, J_max, J_min, J_nab, J_nao, rdA, rdF, rdL, wA_fold, wF_fold, wL_fold, wC_fold]
        exact w
      · have t12 : ¬ x2 ≤ 100 := (fun e => c11 ((Jle k10 (by decide)).mpr e))
        replace w := w.2 t12
        exact w
-- OutwardDoors.ahead(II)I at 49
set_option maxRecDepth 20000 in
set_option maxHeartbeats 4000000 in
theorem r109_49 {X : Cst} {d : Nat} {x1 : Int} {x2 : Int} {g : Nat} {x4 : Int} {pl : Nat} {h : AH} {Q : Post} (C_h : Lay h) (K_h_0 : PlanAt h pl) (K_h_1 : RuleAt h g) (P_h : hR h 52 0 = some pl)
  (w : (-2147483648 ≤ x4 ∧ x4 < 2147483648) ∧ (-2147483648 ≤ x2 ∧ x2 < 2147483648) ∧ ((x2 ≤ x4 → (0 ≤ x1 ∧ x1 < 4) ∧ Q (some (.int (J (aI h 115 x1)))) h) ∧ (¬ x2 ≤ x4 → Ex X PG d 90 0 [some (.ref 241), some (.ref pl), some (.ref 114), some (.ref g), none, none] [] h (fun v12 h13 => v12 = none ∧ SH h h13 ∧ Ex X PG (d + 1) 109 49 [some (.ref 0), some (.int (J x1)), some (.int (J x2)), some (.ref g), some (.int (J (x4 + 1)))] [] h13 Q)))) :
    Ex X PG (d + 1) 109 49 [some (.ref 0), some (.int (J x1)), some (.int (J x2)), some (.ref g), some (.int (J x4))] [] h Q := by
  refine wpx_ok (cut := [49]) 14 d 109 49 _ _ _ _ ?_
  show (((J x2) ≤ (J x4) → hs h 0 = (0, 10) ∧ ∃ q5, hR h 0 7 = some q5 ∧ hs h q5 = (0, 9) ∧ ∃ q6, hR h q5 0 = some q6 ∧ (hs h q6).1 = 1 ∧ ix (J x1) (hs h q6).2 ∧ Q (some (.int (hI h q6 (Int32.toNatClampNeg (J x1))))) h) ∧ (¬ ((J x2) ≤ (J x4)) → hs h 0 = (0, 10) ∧ ∃ q8, hR h 0 9 = some q8 ∧ hs h 0 = (0, 10) ∧ ∃ q9, hR h 0 5 = some q9 ∧ hs h q9 = (0, 6) ∧ ∃ q10, hR h q9 0 = some q10 ∧ hs h 0 = (0, 10) ∧ ∃ q11, hR h 0 7 = some q11 ∧ hs h q8 = (0, 1) ∧ Ex X PG d 90 0 [some (.ref q8), some (.ref q10), some (.ref q11), some (.ref g), none, none] [] h (fun v12 h13 => v12 = none ∧ Ex X PG (d + 1) 109 49 [some (.ref 0), some (.int (J x1)), some (.int (J x2)), some (.ref g), some (.int ((J x4) + (J 1)))] [] h13 Q)))
  try simp only [aI_wAL, fI_wAL, aL_wA, aL_wF, aI_wA_ne, aI_wF_ne, fI_wA_ne, fI_wF_ne, fI_wF_nk, aL_wAL_ne, J_sameA, J_sameF, aL_same, Nat.add_left_cancel_iff, Nat.add_eq_left, Nat.left_eq_add, not_false_eq_true, Nat.reduceEqDiff, Nat.reduceAdd, J_add, J_sub, J_mul, J_neg, J_and, J_or, J_xor, J_shl, J_shr, J_div, J_i2b, J_i2l, J_l2i, J_lcm, J_max, J_min, J_nab, J_nao, rdA, rdF, rdL, wA_fold, wF_fold, wL_fold, wC_fold]
  obtain ⟨k3, w⟩ := w
  obtain ⟨k4, w⟩ := w
  refine ⟨fun c1 => ?_, fun c1 => ?_⟩
  · have t2 : x2 ≤ x4 := ((Jle k4 k3).mp c1)
    replace w := w.1 t2
    refine ⟨(ls0 C_h), _, (lr0_7 C_h), ?_⟩
    refine ⟨(ls114 C_h), _, (lr114_0 C_h), ?_⟩
    obtain ⟨k7, w⟩ := w
    refine ⟨congrArg Prod.fst (ls115 C_h), ixs (ls115 C_h) k7 (by decide), ?_⟩
    exact w
  · have t2 : ¬ x2 ≤ x4 := (fun e => c1 ((Jle k4 k3).mpr e))
    replace w := w.2 t2
    refine ⟨(ls0 C_h), _, (lr0_9 C_h), ?_⟩
    refine ⟨(ls0 C_h), _, (lr0_5 C_h), ?_⟩
    refine ⟨(ls52 C_h), _, P_h, ?_⟩
    refine ⟨(ls0 C_h), _, (lr0_7 C_h), ?_⟩
    refine ⟨(ls241 C_h), ?_⟩
    refine Ex.mono w (Nat.le_refl _) ?_
    rintro v12 h13 ⟨rfl, s14, w⟩
    refine ⟨rfl, ?_⟩
    have C_h13 := Lay_SH s14 C_h
    have K_h13_0 := PlanAt_SH s14 K_h_0
    have K_h13_1 := RuleAt_SH s14 K_h_1
    have P_h13 := (congrFun (congrFun s14.2 52) 0).trans P_h
    try simp only [aI_wAL, fI_wAL, aL_wA, aL_wF, aI_wA_ne, aI_wF_ne, fI_wA_ne, fI_wF_ne, fI_wF_nk, aL_wAL_ne, J_sameA, J_sameF, aL_same, Nat.add_left_cancel_iff, Nat.add_eq_left, Nat.left_eq_add, not_false_eq_true, Nat.reduceEqDiff, Nat.reduceAdd, J_add, J_sub, J_mul, J_neg, J_and, J_or, J_xor, J_shl, J_shr, J_div, J_i2b, J_i2l, J_l2i, J_lcm, J_max, J_min, J_nab, J_nao, rdA, rdF, rdL, wA_fold, wF_fold, wL_fold, wC_fold]
    exact w
theorem momI_Stat {N : Int} {f : Int} {Rs : Int → Ru} {S : Int → Int} (W : WF N S) : ∀ n : Nat, Stat S (momI f Rs n S) := by
  intro n
  induction n with
  | zero => exact Stat.rf
  | succ n ih => exact ih.tr (Stat.mo1E (momI_WF W n))
theorem m109 {X : Cst} {d : Nat} {pl : Nat} {p m N f n : Int} {Rs : Int → Ru} {S : Int → Int} {h : AH} {Q : Post} (C : Lay h) (P : hR h 52 0 = some pl) (K : PlanAt h pl) (hd : 6 ≤ d) (R : CS h pl S) (W : WF N S) (hN : N ≤ 800) (U : CU h n Rs) (ef : fI h 52 2 = f) (hf : -1 ≤ f ∧ f < n) (g1 : -2147483648 ≤ p ∧ p < 2147483648) (g2 : -2147483648 ≤ m ∧ m < 2147483648)
    (k : ∀ h', Fr TAh h h' → Q (some (.int (J (anAhead f Rs S p m)))) h') : Ex X PG d 109 0 [some (.ref 0), some (.int (J p)), some (.int (J m)), none, none] [] h Q := by
  obtain ⟨d, rfl⟩ : ∃ e, d = e + 1 := ⟨d - 1, by omega⟩
  have b := W.1
  unfold WFb at b
  have W9 : WF 999 S := W.up (by omega)
  obtain ⟨M, cr, ok, ap, ap2⟩ := U.at C hf.2
  have un := U.2.1
  unfold anAhead at k
  refine r109_0 (S := S) C K M P (by omega) ⟨R, g1, fun c => ?_, fun c => ⟨g2, fun c2 => ?_, fun c2 => ⟨fun c3 => ⟨by decide, fun h17 s17 p17 => ?_⟩, fun c3 => ?_⟩⟩⟩
  · rw [if_neg (fun z => c z.1)] at k; exact k h Fr.rf
  · rw [if_neg (fun z => absurd z.2.1 (by omega))] at k; exact k h Fr.rf
  · rw [if_pos ⟨c, by omega, c3⟩] at k
    have F17 : Fr TAh h h17 := p17.1.mo fun c k z => by unfold TAh; omega
    have e13 : fI h17 0 13 = n := by rw [p17.1.f 0 13 (by omega)]; exact U.1
    have e52 : fI h17 52 2 = f := by rw [p17.1.f 52 2 (by omega)]; exact ef
    rw [e13, e52]
    refine ⟨rfl, un.2, by omega, ?_⟩
    have lp : ∀ (z : Nat) (i : Nat) (h' : AH), m - i = z → Fr TAh h h' → WorldRep h' 114 (momI f Rs i S) → Ex X PG (d + 1) 109 49 [some (.ref 0), some (.int (J p)), some (.int (J m)), some (.ref (rad f n)), some (.int (J (i : Int)))] [] h' Q := by
      intro z
      induction z with
      | zero =>
        intro i h' e F V
        refine r109_49 (F.C C) (PlanAt_SH F.1 K) (RuleAt_SH F.1 M) (hR_fr F P) ⟨by omega, g2, fun _ => ⟨by omega, ?_⟩, fun y => absurd (by omega) y⟩
        have w2 := momI_k (f := f) (Rs := Rs) W (k := 2) (Or.inl (by decide)) i
        rw [show aI h' 115 p = pS (momI f Rs i S) p 0 from (V.1 p c.1 (by omega)).1]
        rw [show m.toNat = i by omega] at k
        exact k h' F
      | succ z ih =>
        intro i h' e F V
        refine r109_49 (F.C C) (PlanAt_SH F.1 K) (RuleAt_SH F.1 M) (hR_fr F P) ⟨by omega, g2, fun y => absurd y (by omega), fun _ => ?_⟩
        refine m90t (n := n) C K (by omega) R.1 R.2.1 W9 U hf rfl F (momI_Stat W i) V ((momI_WF W i).up (by omega)) (fun h'' F2 V2 _ _ => ⟨rfl, F2.1, ?_⟩)
        exact ih (i + 1) h'' (by omega) (F.tr F2) V2
    exact lp m.toNat 0 h17 (by omega) F17 (p17.2.rep (S := S) R.2.2.1 (by omega))
  · rw [if_neg (fun z => c3 z.2.2)] at k; exact k h Fr.rf
-- OutwardDoors.comes(I)I at 0
set_option maxRecDepth 20000 in
set_option maxHeartbeats 4000000 in
theorem r110_0 {X : Cst} {d : Nat} {x1 : Int} {pl : Nat} {g : Nat} {S : Int → Int} {h : AH} {Q : Post} (C_h : Lay h) (K_h_0 : PlanAt h pl) (K_h_1 : RuleAt h g) (P_h : hR h 52 0 = some pl) (hd : 1 ≤ d)
  (w : (CS h pl S) ∧ (-2147483648 ≤ x1 ∧ x1 < 2147483648) ∧ (((0 ≤ x1 ∧ x1 < S 2) → (114 + 5 < 64 ∨ 64 + 5 < 114) ∧ (∀ h12, SH h h12 → (Fr (fun c _ => 114 ≤ c ∧ c ≤ 114 + 5) h h12 ∧ WCopy h h12 114 64) → (g = rad (fI h12 52 2) (fI h12 0 13)) ∧ (fI h12 0 13 ≤ 6) ∧ (-2147483648 ≤ (fI h12 52 2) ∧ (fI h12 52 2) < 2147483648) ∧ Ex X PG (d + 1) 110 38 [some (.ref 0), some (.int (J x1)), some (.ref g), some (.int (J 0))] [] h12 Q)) ∧ (¬ (0 ≤ x1 ∧ x1 < S 2) → Q (some (.int (J (-1)))) h))) :
    Ex X PG (d + 1) 110 0 [some (.ref 0), some (.int (J x1)), none, none] [] h Q := by
  refine wpx_ok (cut := [38]) 18 d 110 0 _ _ _ _ ?_
  show hs h 0 = (0, 10) ∧ Ex X PG d 75 0 [some (.ref 0), some (.int (J x1))] [] h (fun v1 h2 => ∃ r3, v1 = some (.int r3) ∧ ((¬ r3 = (J 0) → hs h2 0 = (0, 10) ∧ ∃ q8, hR h2 0 7 = some q8 ∧ hs h2 0 = (0, 10) ∧ ∃ q9, hR h2 0 5 = some q9 ∧ hs h2 q9 = (0, 6) ∧ ∃ q10, hR h2 q9 1 = some q10 ∧ hs h2 q8 = (0, 9) ∧ Ex X PG d 88 0 [some (.ref q8), some (.ref q10)] [] h2 (fun v11 h12 => v11 = none ∧ hs h12 0 = (0, 10) ∧ ∃ q14, hR h12 0 5 = some q14 ∧ hs h12 q14 = (0, 6) ∧ hs h12 0 = (0, 10) ∧ Ex X PG d 89 0 [some (.ref 0), some (.int (hF h12 q14 2))] [] h12 (fun v15 h16 => ∃ r17, v15 = some (.ref r17) ∧ Ex X PG (d + 1) 110 38 [some (.ref 0), some (.int (J x1)), some (.ref r17), some (.int (J 0))] [] h16 Q))) ∧ (¬ (¬ r3 = (J 0)) → Q (some (.int (J (-1)))) h2)))
  try simp only [aI_wAL, fI_wAL, aL_wA, aL_wF, aI_wA_ne, aI_wF_ne, fI_wA_ne, fI_wF_ne, fI_wF_nk, aL_wAL_ne, J_sameA, J_sameF, aL_same, Nat.add_left_cancel_iff, Nat.add_eq_left, Nat.left_eq_add, not_false_eq_true, Nat.reduceEqDiff, Nat.reduceAdd, J_add, J_sub, J_mul, J_neg, J_and, J_or, J_xor, J_shl, J_shr, J_div, J_i2b, J_i2l, J_l2i, J_lcm, J_max, J_min, J_nab, J_nao, rdA, rdF, rdL, wA_fold, wF_fold, wL_fold, wC_fold]
  refine ⟨(ls0 C_h), ?_⟩
  obtain ⟨k4, w⟩ := w
  obtain ⟨k5, w⟩ := w
  refine m75 (h := h) (x := x1) (S := S) (pl := pl) C_h P_h K_h_0 (by omega) k4 k5 ?_
  refine ⟨_, rfl, ?_⟩
  try simp only [aI_wAL, fI_wAL, aL_wA, aL_wF, aI_wA_ne, aI_wF_ne, fI_wA_ne, fI_wF_ne, fI_wF_nk, aL_wAL_ne, J_sameA, J_sameF, aL_same, Nat.add_left_cancel_iff, Nat.add_eq_left, Nat.left_eq_add, not_false_eq_true, Nat.reduceEqDiff, Nat.reduceAdd, J_add, J_sub, J_mul, J_neg, J_and, J_or, J_xor, J_shl, J_shr, J_div, J_i2b, J_i2l, J_l2i, J_lcm, J_max, J_min, J_nab, J_nao, rdA, rdF, rdL, wA_fold, wF_fold, wL_fold, wC_fold]
  refine ⟨fun c6 => ?_, fun c6 => ?_⟩
  · have t7 : (0 ≤ x1 ∧ x1 < S 2) := (Classical.byContradiction fun n => c6 ((bI0 _).mpr n))
    replace w := w.1 t7
    refine ⟨(ls0 C_h), _, (lr0_7 C_h), ?_⟩
    refine ⟨(ls0 C_h), _, (lr0_5 C_h), ?_⟩
    refine ⟨(ls52 C_h), _, (lr52_1 C_h), ?_⟩
    refine ⟨(ls114 C_h), ?_⟩
    obtain ⟨k13, w⟩ := w
    refine m88 (h := h) (a := 114) (b := 64) C_h (WorldAt_114 C_h) (WorldAt_64 C_h) (by omega) k13 ?_
    intro h12 s21 p22
    replace w := w h12 s21 p22
    refine ⟨rfl, ?_⟩
    have C_h12 := Lay_SH s21 C_h
    have K_h12_0 := PlanAt_SH s21 K_h_0
    have K_h12_1 := RuleAt_SH s21 K_h_1
    have P_h12 := (congrFun (congrFun s21.2 52) 0).trans P_h
    try simp only [aI_wAL, fI_wAL, aL_wA, aL_wF, aI_wA_ne, aI_wF_ne, fI_wA_ne, fI_wF_ne, fI_wF_nk, aL_wAL_ne, J_sameA, J_sameF, aL_same, Nat.add_left_cancel_iff, Nat.add_eq_left, Nat.left_eq_add, not_false_eq_true, Nat.reduceEqDiff, Nat.reduceAdd, J_add, J_sub, J_mul, J_neg, J_and, J_or, J_xor, J_shl, J_shr, J_div, J_i2b, J_i2l, J_l2i, J_lcm, J_max, J_min, J_nab, J_nao, rdA, rdF, rdL, wA_fold, wF_fold, wL_fold, wC_fold]
    refine ⟨(ls0 C_h12), _, (lr0_5 C_h12), ?_⟩
    refine ⟨(ls52 C_h12), ?_⟩
    refine ⟨(ls0 C_h12), ?_⟩
    obtain ⟨k18, w⟩ := w
    obtain ⟨k19, w⟩ := w
    obtain ⟨k20, w⟩ := w
    refine m89 (h := h12) (f := (fI h12 52 2)) (pl := pl) (g := g) C_h12 P_h12 K_h12_0 (by omega) k18 k19 k20 ?_
    refine ⟨_, rfl, ?_⟩
    try simp only [aI_wAL, fI_wAL, aL_wA, aL_wF, aI_wA_ne, aI_wF_ne, fI_wA_ne, fI_wF_ne, fI_wF_nk, aL_wAL_ne, J_sameA, J_sameF, aL_same, Nat.add_left_cancel_iff, Nat.add_eq_left, Nat.left_eq_add, not_false_eq_true, Nat.reduceEqDiff, Nat.reduceAdd, J_add, J_sub, J_mul, J_neg, J_and, J_or, J_xor, J_shl, J_shr, J_div, J_i2b, J_i2l, J_l2i, J_lcm, J_max, J_min, J_nab, J_nao, rdA, rdF, rdL, wA_fold, wF_fold, wL_fold, wC_fold]
    exact w
  · have t7 : ¬ (0 ≤ x1 ∧ x1 < S 2) := ((bI0 _).mp (Classical.byContradiction fun n => c6 n))
    replace w := w.2 t7
    exact w
-- OutwardDoors.comes(I)I at 38
set_option maxRecDepth 20000 in
set_option maxHeartbeats 4000000 in
theorem r110_38 {X : Cst} {d : Nat} {x1 : Int} {g : Nat} {x3 : Int} {pl : Nat} {h : AH} {Q : Post} (C_h : Lay h) (K_h_0 : PlanAt h pl) (K_h_1 : RuleAt h g) (P_h : hR h 52 0 = some pl)
  (w : (-2147483648 ≤ x3 ∧ x3 < 2147483648) ∧ ((200 ≤ x3 → (0 ≤ x1 ∧ x1 < 4) ∧ ((¬ aI h 115 x1 = aI h 116 x1 → Q (some (.int (J (-2)))) h) ∧ (aI h 115 x1 = aI h 116 x1 → Q (some (.int (J (fI h 114 5)))) h))) ∧ (¬ 200 ≤ x3 → (0 ≤ x1 ∧ x1 < 4) ∧ ((aI h 115 x1 = aI h 116 x1 → Q (some (.int (J (fI h 114 5)))) h) ∧ (¬ aI h 115 x1 = aI h 116 x1 → Ex X PG d 90 0 [some (.ref 241), some (.ref pl), some (.ref 114), some (.ref g), none, none] [] h (fun v30 h31 => v30 = none ∧ SH h h31 ∧ Ex X PG (d + 1) 110 38 [some (.ref 0), some (.int (J x1)), some (.ref g), some (.int (J (x3 + 1)))] [] h31 Q)))))) :
    Ex X PG (d + 1) 110 38 [some (.ref 0), some (.int (J x1)), some (.ref g), some (.int (J x3))] [] h Q := by
  refine wpx_ok (cut := [38]) 30 d 110 38 _ _ _ _ ?_
  show (((J 200) ≤ (J x3) → hs h 0 = (0, 10) ∧ ∃ q4, hR h 0 7 = some q4 ∧ hs h q4 = (0, 9) ∧ ∃ q5, hR h q4 0 = some q5 ∧ (hs h q5).1 = 1 ∧ ix (J x1) (hs h q5).2 ∧ hs h 0 = (0, 10) ∧ ∃ q7, hR h 0 7 = some q7 ∧ hs h q7 = (0, 9) ∧ ∃ q8, hR h q7 1 = some q8 ∧ (hs h q8).1 = 1 ∧ ix (J x1) (hs h q8).2 ∧ ((¬ (hI h q5 (Int32.toNatClampNeg (J x1))) = (hI h q8 (Int32.toNatClampNeg (J x1))) → Q (some (.int (J (-2)))) h) ∧ (¬ (¬ (hI h q5 (Int32.toNatClampNeg (J x1))) = (hI h q8 (Int32.toNatClampNeg (J x1)))) → hs h 0 = (0, 10) ∧ ∃ q11, hR h 0 7 = some q11 ∧ hs h q11 = (0, 9) ∧ Q (some (.int (hF h q11 5))) h))) ∧ (¬ ((J 200) ≤ (J x3)) → hs h 0 = (0, 10) ∧ ∃ q12, hR h 0 7 = some q12 ∧ hs h q12 = (0, 9) ∧ ∃ q13, hR h q12 0 = some q13 ∧ (hs h q13).1 = 1 ∧ ix (J x1) (hs h q13).2 ∧ hs h 0 = (0, 10) ∧ ∃ q15, hR h 0 7 = some q15 ∧ hs h q15 = (0, 9) ∧ ∃ q16, hR h q15 1 = some q16 ∧ (hs h q16).1 = 1 ∧ ix (J x1) (hs h q16).2 ∧ (((hI h q13 (Int32.toNatClampNeg (J x1))) = (hI h q16 (Int32.toNatClampNeg (J x1))) → hs h 0 = (0, 10) ∧ ∃ q19, hR h 0 7 = some q19 ∧ hs h q19 = (0, 9) ∧ ∃ q20, hR h q19 0 = some q20 ∧ (hs h q20).1 = 1 ∧ ix (J x1) (hs h q20).2 ∧ hs h 0 = (0, 10) ∧ ∃ q21, hR h 0 7 = some q21 ∧ hs h q21 = (0, 9) ∧ ∃ q22, hR h q21 1 = some q22 ∧ (hs h q22).1 = 1 ∧ ix (J x1) (hs h q22).2 ∧ ((¬ (hI h q20 (Int32.toNatClampNeg (J x1))) = (hI h q22 (Int32.toNatClampNeg (J x1))) → Q (some (.int (J (-2)))) h) ∧ (¬ (¬ (hI h q20 (Int32.toNatClampNeg (J x1))) = (hI h q22 (Int32.toNatClampNeg (J x1)))) → hs h 0 = (0, 10) ∧ ∃ q25, hR h 0 7 = some q25 ∧ hs h q25 = (0, 9) ∧ Q (some (.int (hF h q25 5))) h))) ∧ (¬ ((hI h q13 (Int32.toNatClampNeg (J x1))) = (hI h q16 (Int32.toNatClampNeg (J x1)))) → hs h 0 = (0, 10) ∧ ∃ q26, hR h 0 9 = some q26 ∧ hs h 0 = (0, 10) ∧ ∃ q27, hR h 0 5 = some q27 ∧ hs h q27 = (0, 6) ∧ ∃ q28, hR h q27 0 = some q28 ∧ hs h 0 = (0, 10) ∧ ∃ q29, hR h 0 7 = some q29 ∧ hs h q26 = (0, 1) ∧ Ex X PG d 90 0 [some (.ref q26), some (.ref q28), some (.ref q29), some (.ref g), none, none] [] h (fun v30 h31 => v30 = none ∧ Ex X PG (d + 1) 110 38 [some (.ref 0), some (.int (J x1)), some (.ref g), some (.int ((J x3) + (J 1)))] [] h31 Q)))))
  try simp only [aI_wAL, fI_wAL, aL_wA, aL_wF, aI_wA_ne, aI_wF_ne, fI_wA_ne, fI_wF_ne, fI_wF_nk, aL_wAL_ne, J_sameA, J_sameF, aL_same, Nat.add_left_cancel_iff, Nat.add_eq_left, Nat.left_eq_add, not_false_eq_true, Nat.reduceEqDiff, Nat.reduceAdd, J_add, J_sub, J_mul, J_neg, J_and, J_or, J_xor, J_shl, J_shr, J_div, J_i2b, J_i2l, J_l2i, J_lcm, J_max, J_min, J_nab, J_nao, rdA, rdF, rdL, wA_fold, wF_fold, wL_fold, wC_fold]
  obtain ⟨k3, w⟩ := w
  refine ⟨fun c1 => ?_, fun c1 => ?_⟩
  · have t2 : 200 ≤ x3 := ((Jle (by decide) k3).mp c1)
    replace w := w.1 t2
    refine ⟨(ls0 C_h), _, (lr0_7 C_h), ?_⟩
    refine ⟨(ls114 C_h), _, (lr114_0 C_h), ?_⟩
    obtain ⟨k6, w⟩ := w
    refine ⟨congrArg Prod.fst (ls115 C_h), ixs (ls115 C_h) k6 (by decide), ?_⟩
    refine ⟨(ls0 C_h), _, (lr0_7 C_h), ?_⟩
    refine ⟨(ls114 C_h), _, (lr114_1 C_h), ?_⟩
    refine ⟨congrArg Prod.fst (ls116 C_h), ixs (ls116 C_h) k6 (by decide), ?_⟩
    refine ⟨fun c9 => ?_, fun c9 => ?_⟩
    · have t10 : ¬ aI h 115 x1 = aI h 116 x1 := (fun e => c9 ((Jeq (rg_toInt _) (rg_toInt _)).mpr e))
      replace w := w.1 t10
      exact w
    · have t10 : aI h 115 x1 = aI h 116 x1 := ((Jeq (rg_toInt _) (rg_toInt _)).mp (Classical.byContradiction c9))
      replace w := w.2 t10
      refine ⟨(ls0 C_h), _, (lr0_7 C_h), ?_⟩
      refine ⟨(ls114 C_h), ?_⟩
      exact w
  · have t2 : ¬ 200 ≤ x3 := (fun e => c1 ((Jle (by decide) k3).mpr e))
    replace w := w.2 t2
    refine ⟨(ls0 C_h), _, (lr0_7 C_h), ?_⟩
    refine ⟨(ls114 C_h), _, (lr114_0 C_h), ?_⟩
    obtain ⟨k14, w⟩ := w
    refine ⟨congrArg Prod.fst (ls115 C_h), ixs (ls115 C_h) k14 (by decide), ?_⟩
    refine ⟨(ls0 C_h), _, (lr0_7 C_h), ?_⟩
    refine ⟨(ls114 C_h), _, (lr114_1 C_h), ?_⟩
    refine ⟨congrArg Prod.fst (ls116 C_h), ixs (ls116 C_h) k14 (by decide), ?_⟩
    refine ⟨fun c17 => ?_, fun c17 => ?_⟩
    · have t18 : aI h 115 x1 = aI h 116 x1 := ((Jeq (rg_toInt _) (rg_toInt _)).mp c17)
      replace w := w.1 t18
      refine ⟨(ls0 C_h), _, (lr0_7 C_h), ?_⟩
      refine ⟨(ls114 C_h), _, (lr114_0 C_h), ?_⟩
      refine ⟨congrArg Prod.fst (ls115 C_h), ixs (ls115 C_h) k14 (by decide), ?_⟩
      refine ⟨(ls0 C_h), _, (lr0_7 C_h), ?_⟩
      refine ⟨(ls114 C_h), _, (lr114_1 C_h), ?_⟩
      refine ⟨congrArg Prod.fst (ls116 C_h), ixs (ls116 C_h) k14 (by decide), ?_⟩
      refine ⟨fun c23 => absurd c23 (fun q => q ((Jeq (rg_toInt _) (rg_toInt _)).mpr t18)), fun _ => ?_⟩
      refine ⟨(ls0 C_h), _, (lr0_7 C_h), ?_⟩
      refine ⟨(ls114 C_h), ?_⟩
      exact w
    · have t18 : ¬ aI h 115 x1 = aI h 116 x1 := (fun e => c17 ((Jeq (rg_toInt _) (rg_toInt _)).mpr e))
      replace w := w.2 t18
      refine ⟨(ls0 C_h), _, (lr0_9 C_h), ?_⟩
      refine ⟨(ls0 C_h), _, (lr0_5 C_h), ?_⟩
      refine ⟨(ls52 C_h), _, P_h, ?_⟩
      refine ⟨(ls0 C_h), _, (lr0_7 C_h), ?_⟩
      refine ⟨(ls241 C_h), ?_⟩
      refine Ex.mono w (Nat.le_refl _) ?_
      rintro v30 h31 ⟨rfl, s32, w⟩
      refine ⟨rfl, ?_⟩
      have C_h31 := Lay_SH s32 C_h
      have K_h31_0 := PlanAt_SH s32 K_h_0
      have K_h31_1 := RuleAt_SH s32 K_h_1
      have P_h31 := (congrFun (congrFun s32.2 52) 0).trans P_h
      try simp only [aI_wAL, fI_wAL, aL_wA, aL_wF, aI_wA_ne, aI_wF_ne, fI_wA_ne, fI_wF_ne, fI_wF_nk, aL_wAL_ne, J_sameA, J_sameF, aL_same, Nat.add_left_cancel_iff, Nat.add_eq_left, Nat.left_eq_add, not_false_eq_true, Nat.reduceEqDiff, Nat.reduceAdd, J_add, J_sub, J_mul, J_neg, J_and, J_or, J_xor, J_shl, J_shr, J_div, J_i2b, J_i2l, J_l2i, J_lcm, J_max, J_min, J_nab, J_nao, rdA, rdF, rdL, wA_fold, wF_fold, wL_fold, wC_fold]
      exact w
theorem m110 {X : Cst} {d : Nat} {pl : Nat} {p N f n : Int} {Rs : Int → Ru} {S : Int → Int} {h : AH} {Q : Post} (C : Lay h) (P : hR h 52 0 = some pl) (K : PlanAt h pl) (hd : 6 ≤ d) (R : CS h pl S) (W : WF N S) (hN : N ≤ 700) (U : CU h n Rs) (ef : fI h 52 2 = f) (hf : -1 ≤ f ∧ f < n) (g1 : -2147483648 ≤ p ∧ p < 2147483648)
    (k : ∀ h', Fr TAh h h' → Q (some (.int (J (anComes f Rs S p)))) h') : Ex X PG d 110 0 [some (.ref 0), some (.int (J p)), none, none] [] h Q := by
  obtain ⟨d, rfl⟩ : ∃ e, d = e + 1 := ⟨d - 1, by omega⟩
  have b := W.1
  unfold WFb at b
  have W9 : WF 999 S := W.up (by omega)
  obtain ⟨M, cr, ok, ap, ap2⟩ := U.at C hf.2
  have un := U.2.1
  unfold anComes at k
  refine r110_0 (S := S) C K M P (by omega) ⟨R, g1, fun c => ⟨by decide, fun h17 s17 p17 => ?_⟩, fun c => ?_⟩
  · rw [if_pos c] at k
    have F17 : Fr TAh h h17 := p17.1.mo fun c k z => by unfold TAh; omega
    have e13 : fI h17 0 13 = n := by rw [p17.1.f 0 13 (by omega)]; exact U.1
    have e52 : fI h17 52 2 = f := by rw [p17.1.f 52 2 (by omega)]; exact ef
    rw [e13, e52]
    refine ⟨rfl, un.2, by omega, ?_⟩
    have lp : ∀ (z : Nat) (i : Nat) (h' : AH), 200 - i = z → i ≤ 200 → Fr TAh h h' → WorldRep h' 114 (momI f Rs i S) → cmR f Rs p z (momI f Rs i S) = cmR f Rs p 200 S → Ex X PG (d + 1) 110 38 [some (.ref 0), some (.int (J p)), some (.ref (rad f n)), some (.int (J (i : Int)))] [] h' Q := by
      intro z
      induction z with
      | zero =>
        intro i h' e e' F V ec
        have w2 := momI_k (f := f) (Rs := Rs) W (k := 2) (Or.inl (by decide)) i
        have v := V.1 p c.1 (by omega)
        refine r110_38 (F.C C) (PlanAt_SH F.1 K) (RuleAt_SH F.1 M) (hR_fr F P) ⟨by omega, fun _ => ⟨by omega, ?_⟩, fun y => absurd (by omega) y⟩
        rw [show aI h' 115 p = pS (momI f Rs i S) p 0 from v.1, show aI h' 116 p = pS (momI f Rs i S) p 1 from v.2.1, show fI h' 114 5 = momI f Rs i S 3 from V.2.2]
        have q := k h' F
        rw [← ec] at q
        unfold cmR at q
        exact ⟨fun y => by rw [if_neg y] at q; exact q, fun y => by rw [if_pos y] at q; exact q⟩
      | succ z ih =>
        intro i h' e e' F V ec
        have w2 := momI_k (f := f) (Rs := Rs) W (k := 2) (Or.inl (by decide)) i
        have v := V.1 p c.1 (by omega)
        refine r110_38 (F.C C) (PlanAt_SH F.1 K) (RuleAt_SH F.1 M) (hR_fr F P) ⟨by omega, fun y => absurd y (by omega), fun _ => ⟨by omega, ?_⟩⟩
        rw [show aI h' 115 p = pS (momI f Rs i S) p 0 from v.1, show aI h' 116 p = pS (momI f Rs i S) p 1 from v.2.1, show fI h' 114 5 = momI f Rs i S 3 from V.2.2]
        have q := k h' F
        rw [← ec] at q
        unfold cmR at ec q
        refine ⟨fun y => by rw [if_pos y] at q; exact q, fun y => ?_⟩
        rw [if_neg y] at ec
        refine m90t (n := n) C K (by omega) R.1 R.2.1 W9 U hf rfl F (momI_Stat W i) V ((momI_WF W i).up (by omega)) (fun h'' F2 V2 _ _ => ⟨rfl, F2.1, ?_⟩)
        exact ih (i + 1) h'' (by omega) (by omega) (F.tr F2) V2 ec
    exact lp 200 0 h17 (by omega) (by omega) F17 (p17.2.rep (S := S) R.2.2.1 (by omega)) rfl
  · rw [if_neg c] at k; exact k h Fr.rf
-- OutwardDoors.drawn(I)I at 0
set_option maxRecDepth 20000 in
set_option maxHeartbeats 4000000 in
theorem r162_0 {X : Cst} {d : Nat} {x0 : Int} {h : AH} {Q : Post} (C_h : Lay h)
  (w : Q (some (.int (J (l2i ((((i2l x0) * (1103515245 : Int64)) + (12345 : Int64)) &&& (2147483647 : Int64)))))) h) :
    Ex X PG (d + 1) 162 0 [some (.int (J x0))] [] h Q := by
  refine wpx_ok (cut := []) 10 d 162 0 _ _ _ _ ?_
  show Q (some (.int (Int64.toInt32 ((((Int32.toInt64 (J x0)) * (1103515245 : Int64)) + (12345 : Int64)) &&& (2147483647 : Int64))))) h
  try simp only [aI_wAL, fI_wAL, aL_wA, aL_wF, aI_wA_ne, aI_wF_ne, fI_wA_ne, fI_wF_ne, fI_wF_nk, aL_wAL_ne, J_sameA, J_sameF, aL_same, Nat.add_left_cancel_iff, Nat.add_eq_left, Nat.left_eq_add, not_false_eq_true, Nat.reduceEqDiff, Nat.reduceAdd, J_add, J_sub, J_mul, J_neg, J_and, J_or, J_xor, J_shl, J_shr, J_div, J_i2b, J_i2l, J_l2i, J_lcm, J_max, J_min, J_nab, J_nao, rdA, rdF, rdL, wA_fold, wF_fold, wL_fold, wC_fold]
  exact w
theorem dr_rg (x : Int) : -2147483648 ≤ dr x ∧ dr x < 2147483648 := by have := dr_b x; omega
theorem and31 {a : Int64} (h : 0 ≤ a.toInt) : (a &&& 2147483647).toInt = a.toInt % 2147483648 := by
  have l := a.toBitVec.isLt
  have h' : 0 ≤ a.toBitVec.toInt := h
  have e : a.toBitVec.toInt = (a.toBitVec.toNat : Int) := by
    rw [BitVec.toInt_eq_toNat_cond] at h' ⊢
    split
    · rfl
    · rename_i c
      rw [if_neg c] at h'
      omega
  have m : (a &&& 2147483647).toBitVec.toNat = a.toBitVec.toNat % 2147483648 := by
    show (a.toBitVec &&& (2147483647 : Int64).toBitVec).toNat = _
    rw [BitVec.toNat_and, show (2147483647 : Int64).toBitVec.toNat = 2147483647 by decide]
    exact Nat.and_two_pow_sub_one_eq_mod _ 31
  show (a &&& 2147483647).toBitVec.toInt = a.toBitVec.toInt % 2147483648
  rw [e, BitVec.toInt_eq_toNat_cond, m, if_pos (by omega)]
  omega
theorem m162 {X : Cst} {d : Nat} {x : Int} {h : AH} {Q : Post} (C : Lay h) (hd : 1 ≤ d) (hx : 0 ≤ x ∧ x < 2147483648) (k : Q (some (.int (J (dr x)))) h) : Ex X PG d 162 0 [some (.int (J x))] [] h Q := by
  obtain ⟨d, rfl⟩ : ∃ e, d = e + 1 := ⟨d - 1, by omega⟩
  refine r162_0 C ?_
  have e : (((i2l x) * (1103515245 : Int64) + (12345 : Int64)) &&& (2147483647 : Int64)).toInt = dr x := by
    rw [and31 (by rw [drL hx]; omega), drL hx]; rfl
  rw [l2i_eq (by rw [e]; exact dr_rg x), e]
  exact k
-- OutwardDoors.days(III)I at 0
set_option maxRecDepth 20000 in
set_option maxHeartbeats 4000000 in
theorem r161_0 {X : Cst} {d : Nat} {x1 : Int} {x2 : Int} {x3 : Int} {pl : Nat} {g : Nat} {S : Int → Int} {h : AH} {Q : Post} (C_h : Lay h) (K_h_0 : PlanAt h pl) (K_h_1 : RuleAt h g) (P_h : hR h 52 0 = some pl) (hd : 1 ≤ d)
  (w : (CS h pl S) ∧ ((¬ (0 < S 0) → Q (some (.int (J (-1)))) h) ∧ ((0 < S 0) → (-2147483648 ≤ x1 ∧ x1 < 2147483648) ∧ ((x1 < 1 → Q (some (.int (J (-1)))) h) ∧ (¬ x1 < 1 → ((10 < x1 → Q (some (.int (J (-1)))) h) ∧ (¬ 10 < x1 → (-2147483648 ≤ x2 ∧ x2 < 2147483648) ∧ ((x2 < 1 → Q (some (.int (J (-1)))) h) ∧ (¬ x2 < 1 → ((60 < x2 → Q (some (.int (J (-1)))) h) ∧ (¬ 60 < x2 → (-2147483648 ≤ x3 ∧ x3 < 2147483648) ∧ ((x3 < 0 → Q (some (.int (J (-1)))) h) ∧ (¬ x3 < 0 → ((x3 ≤ 1 → ((¬ fI h pl 2 = 0 → (g = rad (fI h 52 2) (fI h 0 13)) ∧ (fI h 0 13 ≤ 6) ∧ (-2147483648 ≤ (fI h 52 2) ∧ (fI h 52 2) < 2147483648) ∧ Ex X PG (d + 1) 161 87 [some (.ref 0), some (.int (J x1)), some (.int (J x2)), some (.int (J x3)), some (.int (J (fI h pl 2))), some (.ref g), some (.int (J (fI h 52 3))), some (.int (J 0)), some (.int (J 0)), none, none] [] h Q) ∧ (fI h pl 2 = 0 → Q (some (.int (J 0))) h))) ∧ (¬ x3 ≤ 1 → Q (some (.int (J (-1)))) h))))))))))))))) :
    Ex X PG (d + 1) 161 0 [some (.ref 0), some (.int (J x1)), some (.int (J x2)), some (.int (J x3)), none, none, none, none, none, none, none] [] h Q := by
  refine wpx_ok (cut := [87, 110]) 41 d 161 0 _ _ _ _ ?_
  show hs h 0 = (0, 10) ∧ Ex X PG d 86 0 [some (.ref 0)] [] h (fun v1 h2 => ∃ r3, v1 = some (.int r3) ∧ ((r3 = (J 0) → Q (some (.int (J (-1)))) h2) ∧ (¬ (r3 = (J 0)) → (((J x1) < (J 1) → Q (some (.int (J (-1)))) h2) ∧ (¬ ((J x1) < (J 1)) → (((J 10) < (J x1) → Q (some (.int (J (-1)))) h2) ∧ (¬ ((J 10) < (J x1)) → (((J x2) < (J 1) → Q (some (.int (J (-1)))) h2) ∧ (¬ ((J x2) < (J 1)) → (((J 60) < (J x2) → Q (some (.int (J (-1)))) h2) ∧ (¬ ((J 60) < (J x2)) → (((J x3) < (J 0) → Q (some (.int (J (-1)))) h2) ∧ (¬ ((J x3) < (J 0)) → (((J x3) ≤ (J 1) → hs h2 0 = (0, 10) ∧ ∃ q22, hR h2 0 5 = some q22 ∧ hs h2 q22 = (0, 6) ∧ ∃ q23, hR h2 q22 0 = some q23 ∧ hs h2 q23 = (0, 2) ∧ ((¬ (hF h2 q23 2) = (J 0) → hs h2 0 = (0, 10) ∧ ∃ q26, hR h2 0 5 = some q26 ∧ hs h2 q26 = (0, 6) ∧ hs h2 0 = (0, 10) ∧ Ex X PG d 89 0 [some (.ref 0), some (.int (hF h2 q26 2))] [] h2 (fun v27 h28 => ∃ r29, v27 = some (.ref r29) ∧ hs h28 0 = (0, 10) ∧ ∃ q33, hR h28 0 5 = some q33 ∧ hs h28 q33 = (0, 6) ∧ Ex X PG (d + 1) 161 87 [some (.ref 0), some (.int (J x1)), some (.int (J x2)), some (.int (J x3)), some (.int (hF h2 q23 2)), some (.ref r29), some (.int (hF h28 q33 3)), some (.int (J 0)), some (.int (J 0)), none, none] [] h28 Q)) ∧ (¬ (¬ (hF h2 q23 2) = (J 0)) → Q (some (.int (J 0))) h2))) ∧ (¬ ((J x3) ≤ (J 1)) → Q (some (.int (J (-1)))) h2)))))))))))))))
  try simp only [aI_wAL, fI_wAL, aL_wA, aL_wF, aI_wA_ne, aI_wF_ne, fI_wA_ne, fI_wF_ne, fI_wF_nk, aL_wAL_ne, J_sameA, J_sameF, aL_same, Nat.add_left_cancel_iff, Nat.add_eq_left, Nat.left_eq_add, not_false_eq_true, Nat.reduceEqDiff, Nat.reduceAdd, J_add, J_sub, J_mul, J_neg, J_and, J_or, J_xor, J_shl, J_shr, J_div, J_i2b, J_i2l, J_l2i, J_lcm, J_max, J_min, J_nab, J_nao, rdA, rdF, rdL, wA_fold, wF_fold, wL_fold, wC_fold]
  refine ⟨(ls0 C_h), ?_⟩
  obtain ⟨k4, w⟩ := w
  refine m86 (h := h)  (S := S) (pl := pl) C_h P_h K_h_0 (by omega) k4 ?_
  refine ⟨_, rfl, ?_⟩
  try simp only [aI_wAL, fI_wAL, aL_wA, aL_wF, aI_wA_ne, aI_wF_ne, fI_wA_ne, fI_wF_ne, fI_wF_nk, aL_wAL_ne, J_sameA, J_sameF, aL_same, Nat.add_left_cancel_iff, Nat.add_eq_left, Nat.left_eq_add, not_false_eq_true, Nat.reduceEqDiff, Nat.reduceAdd, J_add, J_sub, J_mul, J_neg, J_and, J_or, J_xor, J_shl, J_shr, J_div, J_i2b, J_i2l, J_l2i, J_lcm, J_max, J_min, J_nab, J_nao, rdA, rdF, rdL, wA_fold, wF_fold, wL_fold, wC_fold]
  refine ⟨fun c5 => ?_, fun c5 => ?_⟩
  · have t6 : ¬ (0 < S 0) := ((bI0 _).mp c5)
    replace w := w.1 t6
    exact w
  · have t6 : (0 < S 0) := (Classical.byContradiction fun n => c5 ((bI0 _).mpr n))
    replace w := w.2 t6
    obtain ⟨k9, w⟩ := w
    refine ⟨fun c7 => ?_, fun c7 => ?_⟩
    · have t8 : x1 < 1 := ((Jlt k9 (by decide)).mp c7)
      replace w := w.1 t8
      exact w
    · have t8 : ¬ x1 < 1 := (fun e => c7 ((Jlt k9 (by decide)).mpr e))
      replace w := w.2 t8
      refine ⟨fun c10 => ?_, fun c10 => ?_⟩
      · have t11 : 10 < x1 := ((Jlt (by decide) k9).mp c10)
        replace w := w.1 t11
        exact w
      · have t11 : ¬ 10 < x1 := (fun e => c10 ((Jlt (by decide) k9).mpr e))
        replace w := w.2 t11
        obtain ⟨k14, w⟩ := w
        refine ⟨fun c12 => ?_, fun c12 => ?_⟩
        · have t13 : x2 < 1 := ((Jlt k14 (by decide)).mp c12)
          replace w := w.1 t13
          exact w
        · have t13 : ¬ x2 < 1 := (fun e => c12 ((Jlt k14 (by decide)).mpr e))
          replace w := w.2 t13
          refine ⟨fun c15 => ?_, fun c15 => ?_⟩
          · have t16 : 60 < x2 := ((Jlt (by decide) k14).mp c15)
            replace w := w.1 t16
            exact w
          · have t16 : ¬ 60 < x2 := (fun e => c15 ((Jlt (by decide) k14).mpr e))
            replace w := w.2 t16
            obtain ⟨k19, w⟩ := w
            refine ⟨fun c17 => ?_, fun c17 => ?_⟩
            · have t18 : x3 < 0 := ((Jlt k19 (by decide)).mp c17)
              replace w := w.1 t18
              exact w
            · have t18 : ¬ x3 < 0 := (fun e => c17 ((Jlt k19 (by decide)).mpr e))
              replace w := w.2 t18
              refine ⟨fun c20 => ?_, fun c20 => ?_⟩
              · have t21 : x3 ≤ 1 := ((Jle k19 (by decide)).mp c20)
                replace w := w.1 t21
                refine ⟨(ls0 C_h), _, (lr0_5 C_h), ?_⟩
                refine ⟨(ls52 C_h), _, P_h, ?_⟩
                refine ⟨(plan_0 K_h_0), ?_⟩
                refine ⟨fun c24 => ?_, fun c24 => ?_⟩
                · have t25 : ¬ fI h pl 2 = 0 := (fun e => c24 ((Jeq (rg_toInt _) (by decide)).mpr e))
                  replace w := w.1 t25
                  refine ⟨(ls0 C_h), _, (lr0_5 C_h), ?_⟩
                  refine ⟨(ls52 C_h), ?_⟩
                  refine ⟨(ls0 C_h), ?_⟩
                  obtain ⟨k30, w⟩ := w
                  obtain ⟨k31, w⟩ := w
                  obtain ⟨k32, w⟩ := w
                  refine m89 (h := h) (f := (fI h 52 2)) (pl := pl) (g := g) C_h P_h K_h_0 (by omega) k30 k31 k32 ?_
                  refine ⟨_, rfl, ?_⟩
                  try simp only [aI_wAL, fI_wAL, aL_wA, aL_wF, aI_wA_ne, aI_wF_ne, fI_wA_ne, fI_wF_ne, fI_wF_nk, aL_wAL_ne, J_sameA, J_sameF, aL_same, Nat.add_left_cancel_iff, Nat.add_eq_left, Nat.left_eq_add, not_false_eq_true, Nat.reduceEqDiff, Nat.reduceAdd, J_add, J_sub, J_mul, J_neg, J_and, J_or, J_xor, J_shl, J_shr, J_div, J_i2b, J_i2l, J_l2i, J_lcm, J_max, J_min, J_nab, J_nao, rdA, rdF, rdL, wA_fold, wF_fold, wL_fold, wC_fold]
                  refine ⟨(ls0 C_h), _, (lr0_5 C_h), ?_⟩
                  refine ⟨(ls52 C_h), ?_⟩
                  exact w
                · have t25 : fI h pl 2 = 0 := ((Jeq (rg_toInt _) (by decide)).mp (Classical.byContradiction c24))
                  replace w := w.2 t25
                  exact w
              · have t21 : ¬ x3 ≤ 1 := (fun e => c20 ((Jle k19 (by decide)).mpr e))
                replace w := w.2 t21
                exact w
-- OutwardDoors.days(III)I at 87
set_option maxRecDepth 20000 in
set_option maxHeartbeats 4000000 in
theorem r161_87 {X : Cst} {d : Nat} {x1 : Int} {x2 : Int} {x3 : Int} {x4 : Int} {g : Nat} {x6 : Int} {x7 : Int} {x8 : Int} {l9 : Option Value} {l10 : Option Value} {pl : Nat} {h : AH} {Q : Post} (C_h : Lay h) (K_h_0 : PlanAt h pl) (K_h_1 : RuleAt h g) (P_h : hR h 52 0 = some pl) (hd : 1 ≤ d)
  (w : (-2147483648 ≤ x8 ∧ x8 < 2147483648) ∧ (-2147483648 ≤ x1 ∧ x1 < 2147483648) ∧ ((x1 ≤ x8 → Q (some (.int (J x7))) h) ∧ (¬ x1 ≤ x8 → (114 + 5 < 64 ∨ 64 + 5 < 114) ∧ (∀ h9, SH h h9 → (Fr (fun c _ => 114 ≤ c ∧ c ≤ 114 + 5) h h9 ∧ WCopy h h9 114 64) → Ex X PG (d + 1) 161 110 [some (.ref 0), some (.int (J x1)), some (.int (J x2)), some (.int (J x3)), some (.int (J x4)), some (.ref g), some (.int (J x6)), some (.int (J x7)), some (.int (J x8)), some (.int (J 0)), l10] [] h9 Q)))) :
    Ex X PG (d + 1) 161 87 [some (.ref 0), some (.int (J x1)), some (.int (J x2)), some (.int (J x3)), some (.int (J x4)), some (.ref g), some (.int (J x6)), some (.int (J x7)), some (.int (J x8)), l9, l10] [] h Q := by
  refine wpx_ok (cut := [87, 110]) 11 d 161 87 _ _ _ _ ?_
  show (((J x1) ≤ (J x8) → Q (some (.int (J x7))) h) ∧ (¬ ((J x1) ≤ (J x8)) → hs h 0 = (0, 10) ∧ ∃ q5, hR h 0 7 = some q5 ∧ hs h 0 = (0, 10) ∧ ∃ q6, hR h 0 5 = some q6 ∧ hs h q6 = (0, 6) ∧ ∃ q7, hR h q6 1 = some q7 ∧ hs h q5 = (0, 9) ∧ Ex X PG d 88 0 [some (.ref q5), some (.ref q7)] [] h (fun v8 h9 => v8 = none ∧ Ex X PG (d + 1) 161 110 [some (.ref 0), some (.int (J x1)), some (.int (J x2)), some (.int (J x3)), some (.int (J x4)), some (.ref g), some (.int (J x6)), some (.int (J x7)), some (.int (J x8)), some (.int (J 0)), l10] [] h9 Q)))
  try simp only [aI_wAL, fI_wAL, aL_wA, aL_wF, aI_wA_ne, aI_wF_ne, fI_wA_ne, fI_wF_ne, fI_wF_nk, aL_wAL_ne, J_sameA, J_sameF, aL_same, Nat.add_left_cancel_iff, Nat.add_eq_left, Nat.left_eq_add, not_false_eq_true, Nat.reduceEqDiff, Nat.reduceAdd, J_add, J_sub, J_mul, J_neg, J_and, J_or, J_xor, J_shl, J_shr, J_div, J_i2b, J_i2l, J_l2i, J_lcm, J_max, J_min, J_nab, J_nao, rdA, rdF, rdL, wA_fold, wF_fold, wL_fold, wC_fold]
  obtain ⟨k3, w⟩ := w
  obtain ⟨k4, w⟩ := w
  refine ⟨fun c1 => ?_, fun c1 => ?_⟩
  · have t2 : x1 ≤ x8 := ((Jle k4 k3).mp c1)
    replace w := w.1 t2
    exact w
  · have t2 : ¬ x1 ≤ x8 := (fun e => c1 ((Jle k4 k3).mpr e))
    replace w := w.2 t2
    refine ⟨(ls0 C_h), _, (lr0_7 C_h), ?_⟩
    refine ⟨(ls0 C_h), _, (lr0_5 C_h), ?_⟩
    refine ⟨(ls52 C_h), _, (lr52_1 C_h), ?_⟩
    refine ⟨(ls114 C_h), ?_⟩
    obtain ⟨k10, w⟩ := w
    refine m88 (h := h) (a := 114) (b := 64) C_h (WorldAt_114 C_h) (WorldAt_64 C_h) (by omega) k10 ?_
    intro h9 s11 p12
    replace w := w h9 s11 p12
    refine ⟨rfl, ?_⟩
    have C_h9 := Lay_SH s11 C_h
    have K_h9_0 := PlanAt_SH s11 K_h_0
    have K_h9_1 := RuleAt_SH s11 K_h_1
    have P_h9 := (congrFun (congrFun s11.2 52) 0).trans P_h
    try simp only [aI_wAL, fI_wAL, aL_wA, aL_wF, aI_wA_ne, aI_wF_ne, fI_wA_ne, fI_wF_ne, fI_wF_nk, aL_wAL_ne, J_sameA, J_sameF, aL_same, Nat.add_left_cancel_iff, Nat.add_eq_left, Nat.left_eq_add, not_false_eq_true, Nat.reduceEqDiff, Nat.reduceAdd, J_add, J_sub, J_mul, J_neg, J_and, J_or, J_xor, J_shl, J_shr, J_div, J_i2b, J_i2l, J_l2i, J_lcm, J_max, J_min, J_nab, J_nao, rdA, rdF, rdL, wA_fold, wF_fold, wL_fold, wC_fold]
    exact w
-- OutwardDoors.days(III)I at 110
set_option maxRecDepth 20000 in
set_option maxHeartbeats 4000000 in
theorem r161_110 {X : Cst} {d : Nat} {x1 : Int} {x2 : Int} {x3 : Int} {x4 : Int} {g : Nat} {x6 : Int} {x7 : Int} {x8 : Int} {x9 : Int} {l10 : Option Value} {pl : Nat} {h : AH} {Q : Post} (C_h : Lay h) (K_h_0 : PlanAt h pl) (K_h_1 : RuleAt h g) (P_h : hR h 52 0 = some pl) (hd : 1 ≤ d)
  (w : (-2147483648 ≤ x9 ∧ x9 < 2147483648) ∧ (-2147483648 ≤ x2 ∧ x2 < 2147483648) ∧ ((x2 ≤ x9 → Ex X PG (d + 1) 161 87 [some (.ref 0), some (.int (J x1)), some (.int (J x2)), some (.int (J x3)), some (.int (J x4)), some (.ref g), some (.int (J x6)), some (.int (J x7)), some (.int (J (x8 + 1))), some (.int (J x9)), l10] [] h Q) ∧ (¬ x2 ≤ x9 → (0 ≤ x6 ∧ x6 < 2147483648) ∧ (-2147483648 ≤ x4 ∧ x4 < 2147483648) ∧ ¬ x4 = 0 ∧ (0 ≤ (dr x6) ∧ (dr x6) < 2147483648) ∧ ¬ (fI h pl 0) = 0 ∧ (0 ≤ (shr (dr x6) (iand 16 31)) - idv (shr (dr x6) (iand 16 31)) x4 * x4 ∧ (shr (dr x6) (iand 16 31)) - idv (shr (dr x6) (iand 16 31)) x4 * x4 < 4) ∧ Ex X PG d 90 0 [some (.ref 241), some (.ref pl), some (.ref 114), some (.ref g), none, none] [] (wA h 116 ((shr (dr x6) (iand 16 31)) - idv (shr (dr x6) (iand 16 31)) x4 * x4) ((shr (dr (dr x6)) (iand 16 31)) - idv (shr (dr (dr x6)) (iand 16 31)) (fI h pl 0) * (fI h pl 0))) (fun v25 h26 => v25 = none ∧ SH (wA h 116 ((shr (dr x6) (iand 16 31)) - idv (shr (dr x6) (iand 16 31)) x4 * x4) ((shr (dr (dr x6)) (iand 16 31)) - idv (shr (dr (dr x6)) (iand 16 31)) (fI h pl 0) * (fI h pl 0))) h26 ∧ (-2147483648 ≤ x3 ∧ x3 < 2147483648) ∧ ((¬ x3 = 0 → Ex X PG (d + 1) 161 110 [some (.ref 0), some (.int (J x1)), some (.int (J x2)), some (.int (J x3)), some (.int (J x4)), some (.ref g), some (.int (J (dr (dr x6)))), some (.int (J (x7 + (fI h26 241 6)))), some (.int (J x8)), some (.int (J (x9 + 1))), some (.int (J ((shr (dr x6) (iand 16 31)) - idv (shr (dr x6) (iand 16 31)) x4 * x4)))] [] h26 Q) ∧ (x3 = 0 → Ex X PG (d + 1) 161 110 [some (.ref 0), some (.int (J x1)), some (.int (J x2)), some (.int (J x3)), some (.int (J x4)), some (.ref g), some (.int (J (dr (dr x6)))), some (.int (J (x7 + (fI h26 241 5)))), some (.int (J x8)), some (.int (J (x9 + 1))), some (.int (J ((shr (dr x6) (iand 16 31)) - idv (shr (dr x6) (iand 16 31)) x4 * x4)))] [] h26 Q)))))) :
    Ex X PG (d + 1) 161 110 [some (.ref 0), some (.int (J x1)), some (.int (J x2)), some (.int (J x3)), some (.int (J x4)), some (.ref g), some (.int (J x6)), some (.int (J x7)), some (.int (J x8)), some (.int (J x9)), l10] [] h Q := by
  refine wpx_ok (cut := [87, 110]) 48 d 161 110 _ _ _ _ ?_
  show (((J x2) ≤ (J x9) → Ex X PG (d + 1) 161 87 [some (.ref 0), some (.int (J x1)), some (.int (J x2)), some (.int (J x3)), some (.int (J x4)), some (.ref g), some (.int (J x6)), some (.int (J x7)), some (.int ((J x8) + (J 1))), some (.int (J x9)), l10] [] h Q) ∧ (¬ ((J x2) ≤ (J x9)) → Ex X PG d 162 0 [some (.int (J x6))] [] h (fun v5 h6 => ∃ r7, v5 = some (.int r7) ∧ ¬ (J x4) = J 0 ∧ Ex X PG d 162 0 [some (.int r7)] [] h6 (fun v11 h12 => ∃ r13, v11 = some (.int r13) ∧ hs h12 0 = (0, 10) ∧ ∃ q15, hR h12 0 7 = some q15 ∧ hs h12 q15 = (0, 9) ∧ ∃ q16, hR h12 q15 1 = some q16 ∧ hs h12 0 = (0, 10) ∧ ∃ q17, hR h12 0 5 = some q17 ∧ hs h12 q17 = (0, 6) ∧ ∃ q18, hR h12 q17 0 = some q18 ∧ hs h12 q18 = (0, 2) ∧ ¬ (hF h12 q18 0) = J 0 ∧ (hs h12 q16).1 = 1 ∧ ix ((r7 >>> ((J 16) &&& J 31)) - (r7 >>> ((J 16) &&& J 31)) / (J x4) * (J x4)) (hs h12 q16).2 ∧ hs (wI h12 q16 (Int32.toNatClampNeg ((r7 >>> ((J 16) &&& J 31)) - (r7 >>> ((J 16) &&& J 31)) / (J x4) * (J x4))) ((r13 >>> ((J 16) &&& J 31)) - (r13 >>> ((J 16) &&& J 31)) / (hF h12 q18 0) * (hF h12 q18 0))) 0 = (0, 10) ∧ ∃ q21, hR (wI h12 q16 (Int32.toNatClampNeg ((r7 >>> ((J 16) &&& J 31)) - (r7 >>> ((J 16) &&& J 31)) / (J x4) * (J x4))) ((r13 >>> ((J 16) &&& J 31)) - (r13 >>> ((J 16) &&& J 31)) / (hF h12 q18 0) * (hF h12 q18 0))) 0 9 = some q21 ∧ hs (wI h12 q16 (Int32.toNatClampNeg ((r7 >>> ((J 16) &&& J 31)) - (r7 >>> ((J 16) &&& J 31)) / (J x4) * (J x4))) ((r13 >>> ((J 16) &&& J 31)) - (r13 >>> ((J 16) &&& J 31)) / (hF h12 q18 0) * (hF h12 q18 0))) 0 = (0, 10) ∧ ∃ q22, hR (wI h12 q16 (Int32.toNatClampNeg ((r7 >>> ((J 16) &&& J 31)) - (r7 >>> ((J 16) &&& J 31)) / (J x4) * (J x4))) ((r13 >>> ((J 16) &&& J 31)) - (r13 >>> ((J 16) &&& J 31)) / (hF h12 q18 0) * (hF h12 q18 0))) 0 5 = some q22 ∧ hs (wI h12 q16 (Int32.toNatClampNeg ((r7 >>> ((J 16) &&& J 31)) - (r7 >>> ((J 16) &&& J 31)) / (J x4) * (J x4))) ((r13 >>> ((J 16) &&& J 31)) - (r13 >>> ((J 16) &&& J 31)) / (hF h12 q18 0) * (hF h12 q18 0))) q22 = (0, 6) ∧ ∃ q23, hR (wI h12 q16 (Int32.toNatClampNeg ((r7 >>> ((J 16) &&& J 31)) - (r7 >>> ((J 16) &&& J 31)) / (J x4) * (J x4))) ((r13 >>> ((J 16) &&& J 31)) - (r13 >>> ((J 16) &&& J 31)) / (hF h12 q18 0) * (hF h12 q18 0))) q22 0 = some q23 ∧ hs (wI h12 q16 (Int32.toNatClampNeg ((r7 >>> ((J 16) &&& J 31)) - (r7 >>> ((J 16) &&& J 31)) / (J x4) * (J x4))) ((r13 >>> ((J 16) &&& J 31)) - (r13 >>> ((J 16) &&& J 31)) / (hF h12 q18 0) * (hF h12 q18 0))) 0 = (0, 10) ∧ ∃ q24, hR (wI h12 q16 (Int32.toNatClampNeg ((r7 >>> ((J 16) &&& J 31)) - (r7 >>> ((J 16) &&& J 31)) / (J x4) * (J x4))) ((r13 >>> ((J 16) &&& J 31)) - (r13 >>> ((J 16) &&& J 31)) / (hF h12 q18 0) * (hF h12 q18 0))) 0 7 = some q24 ∧ hs (wI h12 q16 (Int32.toNatClampNeg ((r7 >>> ((J 16) &&& J 31)) - (r7 >>> ((J 16) &&& J 31)) / (J x4) * (J x4))) ((r13 >>> ((J 16) &&& J 31)) - (r13 >>> ((J 16) &&& J 31)) / (hF h12 q18 0) * (hF h12 q18 0))) q21 = (0, 1) ∧ Ex X PG d 90 0 [some (.ref q21), some (.ref q23), some (.ref q24), some (.ref g), none, none] [] (wI h12 q16 (Int32.toNatClampNeg ((r7 >>> ((J 16) &&& J 31)) - (r7 >>> ((J 16) &&& J 31)) / (J x4) * (J x4))) ((r13 >>> ((J 16) &&& J 31)) - (r13 >>> ((J 16) &&& J 31)) / (hF h12 q18 0) * (hF h12 q18 0))) (fun v25 h26 => v25 = none ∧ ((¬ (J x3) = (J 0) → hs h26 0 = (0, 10) ∧ ∃ q30, hR h26 0 9 = some q30 ∧ hs h26 q30 = (0, 1) ∧ Ex X PG (d + 1) 161 110 [some (.ref 0), some (.int (J x1)), some (.int (J x2)), some (.int (J x3)), some (.int (J x4)), some (.ref g), some (.int r13), some (.int ((J x7) + (hF h26 q30 6))), some (.int (J x8)), some (.int ((J x9) + (J 1))), some (.int ((r7 >>> ((J 16) &&& J 31)) - (r7 >>> ((J 16) &&& J 31)) / (J x4) * (J x4)))] [] h26 Q) ∧ (¬ (¬ (J x3) = (J 0)) → hs h26 0 = (0, 10) ∧ ∃ q31, hR h26 0 9 = some q31 ∧ hs h26 q31 = (0, 1) ∧ Ex X PG (d + 1) 161 110 [some (.ref 0), some (.int (J x1)), some (.int (J x2)), some (.int (J x3)), some (.int (J x4)), some (.ref g), some (.int r13), some (.int ((J x7) + (hF h26 q31 5))), some (.int (J x8)), some (.int ((J x9) + (J 1))), some (.int ((r7 >>> ((J 16) &&& J 31)) - (r7 >>> ((J 16) &&& J 31)) / (J x4) * (J x4)))] [] h26 Q)))))))
  try simp only [aI_wAL, fI_wAL, aL_wA, aL_wF, aI_wA_ne, aI_wF_ne, fI_wA_ne, fI_wF_ne, fI_wF_nk, aL_wAL_ne, J_sameA, J_sameF, aL_same, Nat.add_left_cancel_iff, Nat.add_eq_left, Nat.left_eq_add, not_false_eq_true, Nat.reduceEqDiff, Nat.reduceAdd, J_add, J_sub, J_mul, J_neg, J_and, J_or, J_xor, J_shl, J_shr, J_div, J_i2b, J_i2l, J_l2i, J_lcm, J_max, J_min, J_nab, J_nao, rdA, rdF, rdL, wA_fold, wF_fold, wL_fold, wC_fold]
  obtain ⟨k3, w⟩ := w
  obtain ⟨k4, w⟩ := w
  refine ⟨fun c1 => ?_, fun c1 => ?_⟩
  · have t2 : x2 ≤ x9 := ((Jle k4 k3).mp c1)
    replace w := w.1 t2
    exact w
  · have t2 : ¬ x2 ≤ x9 := (fun e => c1 ((Jle k4 k3).mpr e))
    replace w := w.2 t2
    obtain ⟨k8, w⟩ := w
    refine m162 (h := h) (x := x6) C_h (by omega) k8 ?_
    refine ⟨_, rfl, ?_⟩
    try simp only [aI_wAL, fI_wAL, aL_wA, aL_wF, aI_wA_ne, aI_wF_ne, fI_wA_ne, fI_wF_ne, fI_wF_nk, aL_wAL_ne, J_sameA, J_sameF, aL_same, Nat.add_left_cancel_iff, Nat.add_eq_left, Nat.left_eq_add, not_false_eq_true, Nat.reduceEqDiff, Nat.reduceAdd, J_add, J_sub, J_mul, J_neg, J_and, J_or, J_xor, J_shl, J_shr, J_div, J_i2b, J_i2l, J_l2i, J_lcm, J_max, J_min, J_nab, J_nao, rdA, rdF, rdL, wA_fold, wF_fold, wL_fold, wC_fold]
    obtain ⟨k9, w⟩ := w
    obtain ⟨k10, w⟩ := w
    refine ⟨fun e => k10 ((Jeq k9 (by decide)).mp e), ?_⟩
    obtain ⟨k14, w⟩ := w
    refine m162 (h := h) (x := (dr x6)) C_h (by omega) k14 ?_
    refine ⟨_, rfl, ?_⟩
    try simp only [aI_wAL, fI_wAL, aL_wA, aL_wF, aI_wA_ne, aI_wF_ne, fI_wA_ne, fI_wF_ne, fI_wF_nk, aL_wAL_ne, J_sameA, J_sameF, aL_same, Nat.add_left_cancel_iff, Nat.add_eq_left, Nat.left_eq_add, not_false_eq_true, Nat.reduceEqDiff, Nat.reduceAdd, J_add, J_sub, J_mul, J_neg, J_and, J_or, J_xor, J_shl, J_shr, J_div, J_i2b, J_i2l, J_l2i, J_lcm, J_max, J_min, J_nab, J_nao, rdA, rdF, rdL, wA_fold, wF_fold, wL_fold, wC_fold]
    refine ⟨(ls0 C_h), _, (lr0_7 C_h), ?_⟩
    refine ⟨(ls114 C_h), _, (lr114_1 C_h), ?_⟩
    refine ⟨(ls0 C_h), _, (lr0_5 C_h), ?_⟩
    refine ⟨(ls52 C_h), _, P_h, ?_⟩
    refine ⟨(plan_0 K_h_0), ?_⟩
    obtain ⟨k19, w⟩ := w
    refine ⟨fun e => k19 ((Jeq (rg_toInt _) (by decide)).mp e), ?_⟩
    obtain ⟨k20, w⟩ := w
    refine ⟨congrArg Prod.fst (ls116 C_h), ixs (ls116 C_h) k20 (by decide), ?_⟩
    refine ⟨(ls0 C_h), _, (lr0_9 C_h), ?_⟩
    refine ⟨(ls0 C_h), _, (lr0_5 C_h), ?_⟩
    refine ⟨(ls52 C_h), _, P_h, ?_⟩
    refine ⟨(ls0 C_h), _, (lr0_7 C_h), ?_⟩
    refine ⟨(ls241 C_h), ?_⟩
    refine Ex.mono w (Nat.le_refl _) ?_
    rintro v25 h26 ⟨rfl, s32, w⟩
    refine ⟨rfl, ?_⟩
    have C_h26 := Lay_SH s32 C_h
    have K_h26_0 := PlanAt_SH s32 K_h_0
    have K_h26_1 := RuleAt_SH s32 K_h_1
    have P_h26 := (congrFun (congrFun s32.2 52) 0).trans P_h
    try simp only [aI_wAL, fI_wAL, aL_wA, aL_wF, aI_wA_ne, aI_wF_ne, fI_wA_ne, fI_wF_ne, fI_wF_nk, aL_wAL_ne, J_sameA, J_sameF, aL_same, Nat.add_left_cancel_iff, Nat.add_eq_left, Nat.left_eq_add, not_false_eq_true, Nat.reduceEqDiff, Nat.reduceAdd, J_add, J_sub, J_mul, J_neg, J_and, J_or, J_xor, J_shl, J_shr, J_div, J_i2b, J_i2l, J_l2i, J_lcm, J_max, J_min, J_nab, J_nao, rdA, rdF, rdL, wA_fold, wF_fold, wL_fold, wC_fold]
    obtain ⟨k29, w⟩ := w
    refine ⟨fun c27 => ?_, fun c27 => ?_⟩
    · have t28 : ¬ x3 = 0 := (fun e => c27 ((Jeq k29 (by decide)).mpr e))
      replace w := w.1 t28
      refine ⟨(ls0 C_h26), _, (lr0_9 C_h26), ?_⟩
      refine ⟨(ls241 C_h26), ?_⟩
      exact w
    · have t28 : x3 = 0 := ((Jeq k29 (by decide)).mp (Classical.byContradiction c27))
      replace w := w.2 t28
      refine ⟨(ls0 C_h26), _, (lr0_9 C_h26), ?_⟩
      refine ⟨(ls241 C_h26), ?_⟩
      exact w
theorem drq_shr {x n : Int} (hx : 0 ≤ x ∧ x < 2147483648) (hn : 0 < n ∧ n < 2147483648) : shr x (iand 16 31) - idv (shr x (iand 16 31)) n * n = drq x n := by
  rw [shr_l (n := 16) (by omega) (by decide), rem_nn (by omega) hn]
  rfl
theorem dyc_0 {f w : Int} {Rs : Int → Ru} : ∀ (n : Nat) (N : Int) (S : Int → Int) (x : Int), WF N S → S 2 = 0 → dyc f Rs w n S x = 0 := by
  intro n
  induction n with
  | zero => intro N S x _ _; rfl
  | succ n ih =>
    intro N S x W e
    show cN f Rs w (aimD S x) + dyc f Rs w n (mo1 f Rs (aimD S x)) (xD S x) = 0
    have ea : aimD S x = S := by unfold aimD; rw [if_pos e]
    rw [ea, ih (N + 1) _ _ (mo1_WF W) (by rw [mo1_k W (Or.inl (by decide))]; exact e)]
    unfold cN
    rw [e, cnt_0, cnt_0]
    split <;> rfl
theorem dym_0 {f w N : Int} {Rs : Int → Ru} {S : Int → Int} (W : WF N S) (e : S 2 = 0) (n : Nat) : ∀ (m : Nat) (x : Int), dym f Rs w S n m x = 0 := by
  intro m
  induction m with
  | zero => intro x; rfl
  | succ m ih =>
    intro x
    show dyc f Rs w n S x + dym f Rs w S n m (dyx S n x) = 0
    rw [dyc_0 n N S x W e, ih]; rfl
theorem m161 {X : Cst} {d : Nat} {pl : Nat} {m q w N f n x : Int} {Rs : Int → Ru} {S : Int → Int} {h : AH} {Q : Post} (C : Lay h) (P : hR h 52 0 = some pl) (K : PlanAt h pl) (hd : 6 ≤ d) (R : CS h pl S) (W : WF N S) (hN : N ≤ 800) (U : CU h n Rs) (ef : fI h 52 2 = f) (hf : -1 ≤ f ∧ f < n) (ex : fI h 52 3 = x) (hx : 0 ≤ x ∧ x < 2147483648) (g1 : -2147483648 ≤ m ∧ m < 2147483648) (g2 : -2147483648 ≤ q ∧ q < 2147483648) (g3 : -2147483648 ≤ w ∧ w < 2147483648)
    (k : ∀ h', Fr TAh h h' → Q (some (.int (J (anDays f Rs S x m q w)))) h') : Ex X PG d 161 0 [some (.ref 0), some (.int (J m)), some (.int (J q)), some (.int (J w)), none, none, none, none, none, none, none] [] h Q := by
  obtain ⟨d, rfl⟩ : ∃ e, d = e + 1 := ⟨d - 1, by omega⟩
  have b := W.1
  unfold WFb at b
  have W9 : WF 999 S := W.up (by omega)
  obtain ⟨M, cr, ok, ap, ap2⟩ := U.at C hf.2
  have un := U.2.1
  have p2 := R.2.1.1.2.2.1
  unfold anDays at k
  refine r161_0 (S := S) C K M P (by omega) ⟨R, fun c => ?_, fun c => ⟨g1, fun c1 => ?_, fun c1 => ⟨fun c2 => ?_, fun c2 => ⟨g2, fun c3 => ?_, fun c3 => ⟨fun c4 => ?_, fun c4 => ⟨g3, fun c5 => ?_, fun c5 => ⟨fun c6 => ?_, fun c6 => ?_⟩⟩⟩⟩⟩⟩⟩
  · rw [if_neg (fun z => c z.1)] at k; exact k h Fr.rf
  · rw [if_neg (fun z => absurd z.2.1 (by omega))] at k; exact k h Fr.rf
  · rw [if_neg (fun z => absurd z.2.1 (by omega))] at k; exact k h Fr.rf
  · rw [if_neg (fun z => absurd z.2.2.1 (by omega))] at k; exact k h Fr.rf
  · rw [if_neg (fun z => absurd z.2.2.1 (by omega))] at k; exact k h Fr.rf
  · rw [if_neg (fun z => absurd z.2.2.2 (by omega))] at k; exact k h Fr.rf
  · rw [if_pos ⟨c, by omega, by omega, by omega⟩] at k
    rw [p2, ex, ef, U.1]
    refine ⟨fun c7 => ⟨rfl, un.2, by omega, ?_⟩, fun c7 => by rw [dym_0 W c7] at k; exact k h Fr.rf⟩
    have s2 : 0 < S 2 := by omega
    -- the outer loop
    have lo : ∀ (mm : Nat) (y a xx : Int) (h' : AH) (l9 l10 : Option Value), m - y = mm → 0 ≤ y → Fr TAh h h' → (0 ≤ xx ∧ xx < 2147483648) → a + dym f Rs w S q.toNat mm xx = dym f Rs w S q.toNat m.toNat x → Ex X PG (d + 1) 161 87 [some (.ref 0), some (.int (J m)), some (.int (J q)), some (.int (J w)), some (.int (J (S 2))), some (.ref (rad f n)), some (.int (J xx)), some (.int (J a)), some (.int (J y)), l9, l10] [] h' Q := by
      intro mm
      induction mm with
      | zero =>
        intro y a xx h' l9 l10 h1 h2 F hxx ea
        refine r161_87 (F.C C) (PlanAt_SH F.1 K) (RuleAt_SH F.1 M) (hR_fr F P) (by omega) ⟨by omega, g1, fun _ => ?_, fun z => absurd (by omega) z⟩
        have := k h' F
        rw [← ea] at this
        rw [show a + dym f Rs w S q.toNat 0 xx = a from Int.add_zero a] at this
        exact this
      | succ mm ih =>
        intro y a xx h' l9 l10 h1 h2 F hxx ea
        refine r161_87 (F.C C) (PlanAt_SH F.1 K) (RuleAt_SH F.1 M) (hR_fr F P) (by omega) ⟨by omega, g1, fun z => absurd z (by omega), fun _ => ⟨by decide, fun h9 s9 p9 => ?_⟩⟩
        have F9 : Fr TAh h h9 := F.tr (p9.1.mo fun c k z => by unfold TAh; omega)
        have R6 : WorldRep h' 64 S := R.2.2.1.fr F (fun c k z => by unfold TAh at z; omega)
        have li : ∀ (nn : Nat) (i v xi L : Int) (V : Int → Int) (h' : AH) (l10 : Option Value), q - i = nn → 0 ≤ i → Fr TAh h h' → (0 ≤ xi ∧ xi < 2147483648) → WF L V → L = N + i → Stat S V → WorldRep h' 114 V → v + (dyc f Rs w nn V xi + dym f Rs w S q.toNat mm (dyx S nn xi)) = dym f Rs w S q.toNat m.toNat x → Ex X PG (d + 1) 161 110 [some (.ref 0), some (.int (J m)), some (.int (J q)), some (.int (J w)), some (.int (J (S 2))), some (.ref (rad f n)), some (.int (J xi)), some (.int (J v)), some (.int (J y)), some (.int (J i)), l10] [] h' Q := by
          intro nn
          induction nn with
          | zero =>
            intro i v xi L V h' l10 i1 i2 F hxi WV eL st RV ev
            refine r161_110 (F.C C) (PlanAt_SH F.1 K) (RuleAt_SH F.1 M) (hR_fr F P) (by omega) ⟨by omega, g2, fun _ => ?_, fun z => absurd (by omega) z⟩
            refine ih (y + 1) v xi h' _ _ (by omega) (by omega) F hxi ?_
            rw [← ev]
            show v + dym f Rs w S q.toNat mm xi = v + (0 + dym f Rs w S q.toNat mm xi)
            omega
          | succ nn ih2 =>
            intro i v xi L V h' l10 i1 i2 F hxi WV eL st RV ev
            have e0 : fI h' pl 0 = S 0 := by rw [F.f pl 0 (fun z => by have := R.1; unfold TAh at z; omega)]; exact R.2.1.1.1
            have v2 : V 2 = S 2 := st.1 2 (by decide) (by decide)
            have v0 : V 0 = S 0 := st.1 0 (by decide) (by decide)
            have d1 := dr_b xi
            have d2 := dr_b (dr xi)
            refine r161_110 (F.C C) (PlanAt_SH F.1 K) (RuleAt_SH F.1 M) (hR_fr F P) (by omega) ⟨by omega, g2, fun z => absurd z (by omega), fun _ => ?_⟩
            rw [e0, drq_shr d1 (by omega), drq_shr d2 (by omega)]
            have q1 := drq_b (x := dr xi) s2
            have q2 := drq_b (x := dr (dr xi)) c
            refine ⟨hxi, by omega, by omega, d1, by omega, by omega, ?_⟩
            have Fw : Fr TAh h' (wA h' 116 (drq (dr xi) (S 2)) (drq (dr (dr xi)) (S 0))) := (Fr.rf (T := TAh)).wA (by unfold TAh; omega)
            have ea : aimD V xi = uu_ V (10 + 6 * drq (dr xi) (S 2) + 1) (drq (dr (dr xi)) (S 0)) := by unfold aimD; rw [v2, v0, if_neg (by omega)]
            have WA := aimD_WF WV xi
            have sA : Stat S (aimD V xi) := by rw [ea]; exact st.tr (WFp.aim WV (by omega) (by omega)).2
            have VA : WorldRep (wA h' 116 (drq (dr xi) (S 2)) (drq (dr (dr xi)) (S 0))) 114 (aimD V xi) := by
              rw [ea]; exact RV.up (i := 2) (by omega) (by omega) (by omega) (by omega)
            refine m90t (n := n) C K (by omega) R.1 R.2.1 W9 U hf rfl (F.tr Fw) sA VA (WA.up (by omega)) (fun h'' F2 V2 c5' c6' => ⟨rfl, F2.1, g3, ?_⟩)
            have xe : xD V xi = dr (dr xi) := by unfold xD; rw [v2, if_neg (by omega)]
            have xs : xD S xi = dr (dr xi) := by unfold xD; rw [if_neg (by omega)]
            have stp : ∀ t, t = cN f Rs w (aimD V xi) → v + t + (dyc f Rs w nn (mo1 f Rs (aimD V xi)) (dr (dr xi)) + dym f Rs w S q.toNat mm (dyx S nn (dr (dr xi)))) = dym f Rs w S q.toNat m.toNat x := by
              intro t et
              rw [et, ← ev]
              have z1 : dyc f Rs w (nn + 1) V xi = cN f Rs w (aimD V xi) + dyc f Rs w nn (mo1 f Rs (aimD V xi)) (xD V xi) := rfl
              have z2 : dyx S (nn + 1) xi = dyx S nn (xD S xi) := rfl
              rw [z1, z2, xe, xs]
              omega
            refine ⟨fun cw => ?_, fun cw => ?_⟩
            · refine ih2 (i + 1) _ _ (L + 1) _ h'' _ (by omega) (by omega) ((F.tr Fw).tr F2) d2 (mo1_WF WA) (by omega) (sA.tr (Stat.mo1E WA)) V2 (stp _ ?_)
              rw [c6']; unfold cN; rw [if_neg cw]
            · refine ih2 (i + 1) _ _ (L + 1) _ h'' _ (by omega) (by omega) ((F.tr Fw).tr F2) d2 (mo1_WF WA) (by omega) (sA.tr (Stat.mo1E WA)) V2 (stp _ ?_)
              rw [c5']; unfold cN; rw [if_pos cw]
        exact li q.toNat 0 a xx N S h9 _ (by omega) (by omega) F9 hxx W (by omega) Stat.rf (p9.2.rep R6 (by omega)) ea
    exact lo m.toNat 0 0 x h none none (by omega) (by omega) Fr.rf hx (Int.zero_add _)
  · rw [if_neg (fun z => absurd z.2.2.2 (by omega))] at k; exact k h Fr.rf
