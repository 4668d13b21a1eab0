/-! THE CLASS: look. -/
def TAt (c k : Nat) : Prop := TAh c k ∨ c = 255
-- OutwardDoors.tallyOne(LOutwardDoors$Rule;I)V at 0
set_option maxRecDepth 20000 in
set_option maxHeartbeats 4000000 in
theorem r158_0 {X : Cst} {d : Nat} {g : Nat} {x2 : Int} {pl : Nat} {h : AH} {Q : Post} (C_h : Lay h) (K_h_0 : PlanAt h pl) (K_h_1 : RuleAt h g) (P_h : hR h 52 0 = some pl) (hd : 2 ≤ d)
  (w : (114 + 5 < pl ∨ pl + 10 < 114) ∧ (∀ h5, SH h h5 → (Fr (fun c _ => 114 ≤ c ∧ c ≤ 114 + 5) h h5 ∧ WBeg h h5 114 pl) → Ex X PG (d + 1) 158 16 [some (.ref 0), some (.ref g), some (.int (J x2)), some (.int (J 0))] [] h5 Q)) :
    Ex X PG (d + 1) 158 0 [some (.ref 0), some (.ref g), some (.int (J x2)), none] [] h Q := by
  refine wpx_ok (cut := [16, 48]) 8 d 158 0 _ _ _ _ ?_
  show hs h 0 = (0, 10) ∧ ∃ q1, hR h 0 7 = some q1 ∧ hs h 0 = (0, 10) ∧ ∃ q2, hR h 0 5 = some q2 ∧ hs h q2 = (0, 6) ∧ ∃ q3, hR h q2 0 = some q3 ∧ hs h q1 = (0, 9) ∧ Ex X PG d 56 0 [some (.ref q1), some (.ref q3)] [] h (fun v4 h5 => v4 = none ∧ Ex X PG (d + 1) 158 16 [some (.ref 0), some (.ref g), some (.int (J x2)), some (.int (J 0))] [] h5 Q)
  try simp only [aI_wAL, fI_wAL, aL_wA, aL_wF, aI_wA_ne, aI_wF_ne, fI_wA_ne, fI_wF_ne, fI_wF_nk, aL_wAL_ne, J_sameA, J_sameF, aL_same, Nat.add_left_cancel_iff, Nat.add_eq_left, Nat.left_eq_add, not_false_eq_true, Nat.reduceEqDiff, Nat.reduceAdd, J_add, J_sub, J_mul, J_neg, J_and, J_or, J_xor, J_shl, J_shr, J_div, J_i2b, J_i2l, J_l2i, J_lcm, J_max, J_min, J_nab, J_nao, rdA, rdF, rdL, wA_fold, wF_fold, wL_fold, wC_fold]
  refine ⟨(ls0 C_h), _, (lr0_7 C_h), ?_⟩
  refine ⟨(ls0 C_h), _, (lr0_5 C_h), ?_⟩
  refine ⟨(ls52 C_h), _, P_h, ?_⟩
  refine ⟨(ls114 C_h), ?_⟩
  obtain ⟨k6, w⟩ := w
  refine m56 (h := h) (a := 114) (b := pl) C_h (WorldAt_114 C_h) K_h_0 (by omega) k6 ?_
  intro h5 s7 p8
  replace w := w h5 s7 p8
  refine ⟨rfl, ?_⟩
  have C_h5 := Lay_SH s7 C_h
  have K_h5_0 := PlanAt_SH s7 K_h_0
  have K_h5_1 := RuleAt_SH s7 K_h_1
  have P_h5 := (congrFun (congrFun s7.2 52) 0).trans P_h
  try simp only [aI_wAL, fI_wAL, aL_wA, aL_wF, aI_wA_ne, aI_wF_ne, fI_wA_ne, fI_wF_ne, fI_wF_nk, aL_wAL_ne, J_sameA, J_sameF, aL_same, Nat.add_left_cancel_iff, Nat.add_eq_left, Nat.left_eq_add, not_false_eq_true, Nat.reduceEqDiff, Nat.reduceAdd, J_add, J_sub, J_mul, J_neg, J_and, J_or, J_xor, J_shl, J_shr, J_div, J_i2b, J_i2l, J_l2i, J_lcm, J_max, J_min, J_nab, J_nao, rdA, rdF, rdL, wA_fold, wF_fold, wL_fold, wC_fold]
  exact w
-- OutwardDoors.tallyOne(LOutwardDoors$Rule;I)V at 16
set_option maxRecDepth 20000 in
set_option maxHeartbeats 4000000 in
theorem r158_16 {X : Cst} {d : Nat} {g : Nat} {x2 : Int} {x3 : Int} {pl : Nat} {h : AH} {Q : Post} (C_h : Lay h) (K_h_0 : PlanAt h pl) (K_h_1 : RuleAt h g) (P_h : hR h 52 0 = some pl)
  (w : (-2147483648 ≤ x3 ∧ x3 < 2147483648) ∧ (-2147483648 ≤ x2 ∧ x2 < 2147483648) ∧ ((x2 ≤ x3 → Ex X PG (d + 1) 158 48 [some (.ref 0), some (.ref g), some (.int (J x2)), some (.int (J 0))] [] h Q) ∧ (¬ x2 ≤ x3 → Ex X PG d 90 0 [some (.ref 241), some (.ref pl), some (.ref 114), some (.ref g), none, none] [] h (fun v9 h10 => v9 = none ∧ SH h h10 ∧ Ex X PG (d + 1) 158 16 [some (.ref 0), some (.ref g), some (.int (J x2)), some (.int (J (x3 + 1)))] [] h10 Q)))) :
    Ex X PG (d + 1) 158 16 [some (.ref 0), some (.ref g), some (.int (J x2)), some (.int (J x3))] [] h Q := by
  refine wpx_ok (cut := [16, 48]) 14 d 158 16 _ _ _ _ ?_
  show (((J x2) ≤ (J x3) → Ex X PG (d + 1) 158 48 [some (.ref 0), some (.ref g), some (.int (J x2)), some (.int (J 0))] [] h Q) ∧ (¬ ((J x2) ≤ (J x3)) → hs h 0 = (0, 10) ∧ ∃ q5, hR h 0 9 = some q5 ∧ hs h 0 = (0, 10) ∧ ∃ q6, hR h 0 5 = some q6 ∧ hs h q6 = (0, 6) ∧ ∃ q7, hR h q6 0 = some q7 ∧ hs h 0 = (0, 10) ∧ ∃ q8, hR h 0 7 = some q8 ∧ hs h q5 = (0, 1) ∧ Ex X PG d 90 0 [some (.ref q5), some (.ref q7), some (.ref q8), some (.ref g), none, none] [] h (fun v9 h10 => v9 = none ∧ Ex X PG (d + 1) 158 16 [some (.ref 0), some (.ref g), some (.int (J x2)), some (.int ((J x3) + (J 1)))] [] h10 Q)))
  try simp only [aI_wAL, fI_wAL, aL_wA, aL_wF, aI_wA_ne, aI_wF_ne, fI_wA_ne, fI_wF_ne, fI_wF_nk, aL_wAL_ne, J_sameA, J_sameF, aL_same, Nat.add_left_cancel_iff, Nat.add_eq_left, Nat.left_eq_add, not_false_eq_true, Nat.reduceEqDiff, Nat.reduceAdd, J_add, J_sub, J_mul, J_neg, J_and, J_or, J_xor, J_shl, J_shr, J_div, J_i2b, J_i2l, J_l2i, J_lcm, J_max, J_min, J_nab, J_nao, rdA, rdF, rdL, wA_fold, wF_fold, wL_fold, wC_fold]
  obtain ⟨k3, w⟩ := w
  obtain ⟨k4, w⟩ := w
  refine ⟨fun c1 => ?_, fun c1 => ?_⟩
  · have t2 : x2 ≤ x3 := ((Jle k4 k3).mp c1)
    replace w := w.1 t2
    exact w
  · have t2 : ¬ x2 ≤ x3 := (fun e => c1 ((Jle k4 k3).mpr e))
    replace w := w.2 t2
    refine ⟨(ls0 C_h), _, (lr0_9 C_h), ?_⟩
    refine ⟨(ls0 C_h), _, (lr0_5 C_h), ?_⟩
    refine ⟨(ls52 C_h), _, P_h, ?_⟩
    refine ⟨(ls0 C_h), _, (lr0_7 C_h), ?_⟩
    refine ⟨(ls241 C_h), ?_⟩
    refine Ex.mono w (Nat.le_refl _) ?_
    rintro v9 h10 ⟨rfl, s11, w⟩
    refine ⟨rfl, ?_⟩
    have C_h10 := Lay_SH s11 C_h
    have K_h10_0 := PlanAt_SH s11 K_h_0
    have K_h10_1 := RuleAt_SH s11 K_h_1
    have P_h10 := (congrFun (congrFun s11.2 52) 0).trans P_h
    try simp only [aI_wAL, fI_wAL, aL_wA, aL_wF, aI_wA_ne, aI_wF_ne, fI_wA_ne, fI_wF_ne, fI_wF_nk, aL_wAL_ne, J_sameA, J_sameF, aL_same, Nat.add_left_cancel_iff, Nat.add_eq_left, Nat.left_eq_add, not_false_eq_true, Nat.reduceEqDiff, Nat.reduceAdd, J_add, J_sub, J_mul, J_neg, J_and, J_or, J_xor, J_shl, J_shr, J_div, J_i2b, J_i2l, J_l2i, J_lcm, J_max, J_min, J_nab, J_nao, rdA, rdF, rdL, wA_fold, wF_fold, wL_fold, wC_fold]
    exact w
-- OutwardDoors.tallyOne(LOutwardDoors$Rule;I)V at 48
set_option maxRecDepth 20000 in
set_option maxHeartbeats 4000000 in
theorem r158_48 {X : Cst} {d : Nat} {g : Nat} {x2 : Int} {x3 : Int} {pl : Nat} {h : AH} {Q : Post} (C_h : Lay h) (K_h_0 : PlanAt h pl) (K_h_1 : RuleAt h g) (P_h : hR h 52 0 = some pl)
  (w : (-2147483648 ≤ x3 ∧ x3 < 2147483648) ∧ ((fI h pl 2 ≤ x3 → Q none h) ∧ (¬ fI h pl 2 ≤ x3 → (0 ≤ x3 ∧ x3 < 4) ∧ (0 ≤ (x3 * 8) + (aI h 115 x3) ∧ (x3 * 8) + (aI h 115 x3) < 32) ∧ Ex X PG (d + 1) 158 48 [some (.ref 0), some (.ref g), some (.int (J x2)), some (.int (J (x3 + 1)))] [] (wA h 255 ((x3 * 8) + (aI h 115 x3)) ((aI h 255 ((x3 * 8) + (aI h 115 x3))) + 1)) Q))) :
    Ex X PG (d + 1) 158 48 [some (.ref 0), some (.ref g), some (.int (J x2)), some (.int (J x3))] [] h Q := by
  refine wpx_ok (cut := [16, 48]) 24 d 158 48 _ _ _ _ ?_
  show hs h 0 = (0, 10) ∧ ∃ q1, hR h 0 5 = some q1 ∧ hs h q1 = (0, 6) ∧ ∃ q2, hR h q1 0 = some q2 ∧ hs h q2 = (0, 2) ∧ (((hF h q2 2) ≤ (J x3) → Q none h) ∧ (¬ ((hF h q2 2) ≤ (J x3)) → hs h 0 = (0, 10) ∧ ∃ q6, hR h 0 12 = some q6 ∧ hs h 0 = (0, 10) ∧ ∃ q7, hR h 0 7 = some q7 ∧ hs h q7 = (0, 9) ∧ ∃ q8, hR h q7 0 = some q8 ∧ (hs h q8).1 = 1 ∧ ix (J x3) (hs h q8).2 ∧ (hs h q6).1 = 1 ∧ ix (((J x3) * (J 8)) + (hI h q8 (Int32.toNatClampNeg (J x3)))) (hs h q6).2 ∧ (hs h q6).1 = 1 ∧ ix (((J x3) * (J 8)) + (hI h q8 (Int32.toNatClampNeg (J x3)))) (hs h q6).2 ∧ Ex X PG (d + 1) 158 48 [some (.ref 0), some (.ref g), some (.int (J x2)), some (.int ((J x3) + (J 1)))] [] (wI h q6 (Int32.toNatClampNeg (((J x3) * (J 8)) + (hI h q8 (Int32.toNatClampNeg (J x3))))) ((hI h q6 (Int32.toNatClampNeg (((J x3) * (J 8)) + (hI h q8 (Int32.toNatClampNeg (J x3)))))) + (J 1))) Q))
  try simp only [aI_wAL, fI_wAL, aL_wA, aL_wF, aI_wA_ne, aI_wF_ne, fI_wA_ne, fI_wF_ne, fI_wF_nk, aL_wAL_ne, J_sameA, J_sameF, aL_same, Nat.add_left_cancel_iff, Nat.add_eq_left, Nat.left_eq_add, not_false_eq_true, Nat.reduceEqDiff, Nat.reduceAdd, J_add, J_sub, J_mul, J_neg, J_and, J_or, J_xor, J_shl, J_shr, J_div, J_i2b, J_i2l, J_l2i, J_lcm, J_max, J_min, J_nab, J_nao, rdA, rdF, rdL, wA_fold, wF_fold, wL_fold, wC_fold]
  refine ⟨(ls0 C_h), _, (lr0_5 C_h), ?_⟩
  refine ⟨(ls52 C_h), _, P_h, ?_⟩
  refine ⟨(plan_0 K_h_0), ?_⟩
  obtain ⟨k5, w⟩ := w
  refine ⟨fun c3 => ?_, fun c3 => ?_⟩
  · have t4 : fI h pl 2 ≤ x3 := ((Jle (rg_toInt _) k5).mp c3)
    replace w := w.1 t4
    exact w
  · have t4 : ¬ fI h pl 2 ≤ x3 := (fun e => c3 ((Jle (rg_toInt _) k5).mpr e))
    replace w := w.2 t4
    refine ⟨(ls0 C_h), _, (lr0_12 C_h), ?_⟩
    refine ⟨(ls0 C_h), _, (lr0_7 C_h), ?_⟩
    refine ⟨(ls114 C_h), _, (lr114_0 C_h), ?_⟩
    obtain ⟨k9, w⟩ := w
    refine ⟨congrArg Prod.fst (ls115 C_h), ixs (ls115 C_h) k9 (by decide), ?_⟩
    obtain ⟨k10, w⟩ := w
    refine ⟨congrArg Prod.fst (ls255 C_h), ixs (ls255 C_h) k10 (by decide), ?_⟩
    refine ⟨congrArg Prod.fst (ls255 C_h), ixs (ls255 C_h) k10 (by decide), ?_⟩
    exact w
theorem m158 {X : Cst} {d : Nat} {pl : Nat} {N f n m : Int} {Rs : Int → Ru} {S : Int → Int} {h : AH} {Q : Post} (C : Lay h) (P : hR h 52 0 = some pl) (K : PlanAt h pl) (hd : 6 ≤ d) (R : CS h pl S) (W : WF N S) (hN : N ≤ 999) (U : CU h n Rs) (hf : -1 ≤ f ∧ f < n) (hm : 0 ≤ m ∧ m ≤ 60) (tl : ∀ p x, 0 ≤ p → p < S 2 → 0 ≤ x → x < 8 → 0 ≤ aI h 255 (p * 8 + x) ∧ aI h 255 (p * 8 + x) < 100)
    (k : ∀ h', Fr TAt h h' → (∀ p x, 0 ≤ p → p < S 2 → 0 ≤ x → x < 8 → aI h' 255 (p * 8 + x) = aI h 255 (p * 8 + x) + bI (lkT Rs S m f p = x)) → Q none h') : Ex X PG d 158 0 [some (.ref 0), some (.ref (rad f n)), some (.int (J m)), none] [] h Q := by
  obtain ⟨d, rfl⟩ : ∃ e, d = e + 1 := ⟨d - 1, by omega⟩
  have b := W.1
  unfold WFb at b
  have W9 : WF 999 S := W.up hN
  obtain ⟨M, cr, ok, ap, ap2⟩ := U.at C hf.2
  obtain ⟨BW, BS⟩ := begS_WF W
  refine r158_0 C K M P (by omega) ⟨by have := R.1; omega, fun h5 s5 p5 => ?_⟩
  have F5 : Fr TAh h h5 := p5.1.mo fun c k z => by unfold TAh; omega
  have lp : ∀ (z i : Nat) (h' : AH), m - i = z → Fr TAh h h' → WorldRep h' 114 (momI f Rs i (begS S)) → Ex X PG (d + 1) 158 16 [some (.ref 0), some (.ref (rad f n)), some (.int (J m)), some (.int (J (i : Int)))] [] h' Q := by
    intro z
    induction z with
    | zero =>
      intro i h' e F V
      refine r158_16 (F.C C) (PlanAt_SH F.1 K) (RuleAt_SH F.1 M) (hR_fr F P) ⟨by omega, by omega, fun _ => ?_, fun y => absurd (by omega) y⟩
      have u2 : momI f Rs i (begS S) 2 = S 2 := by rw [momI_k BW (Or.inl (by decide))]; exact begS_k W (by decide) (by decide)
      have u0 : momI f Rs i (begS S) 0 = S 0 := by rw [momI_k BW (Or.inl (by decide))]; exact begS_k W (by decide) (by decide)
      have ei : m.toNat = i := by omega
      have a5 : aI h' 255 = aI h 255 := F.a 255 (fun k z => by unfold TAh at z; omega)
      have l4 : ∀ (y : Nat) (p : Int) (h'' : AH), S 2 - p = y → 0 ≤ p → Fr (fun c _ => c = 255) h' h'' → (∀ q x, 0 ≤ q → q < S 2 → 0 ≤ x → x < 8 → aI h'' 255 (q * 8 + x) = aI h 255 (q * 8 + x) + bI (q < p ∧ lkT Rs S m f q = x)) → Ex X PG (d + 1) 158 48 [some (.ref 0), some (.ref (rad f n)), some (.int (J m)), some (.int (J p))] [] h'' Q := by
        intro y
        induction y with
        | zero =>
          intro p h'' y1 y2 F2 a
          have FF : Fr TAt h h'' := (F.mo fun c k z => Or.inl z).tr (F2.mo fun c k z => Or.inr z)
          refine r158_48 (FF.C C) (PlanAt_SH FF.1 K) (RuleAt_SH FF.1 M) (hR_fr FF P) ?_
          rw [FF.f pl 2 (fun z => by have := R.1; unfold TAt TAh at z; omega), R.2.1.1.2.2.1]
          refine ⟨by omega, fun _ => k h'' FF (fun q x q0 q1 x0 x1 => ?_), fun y => absurd (by omega) y⟩
          rw [a q x q0 q1 x0 x1, bI_iff (show (q < p ∧ lkT Rs S m f q = x) ↔ lkT Rs S m f q = x from ⟨fun z => z.2, fun z => ⟨by omega, z⟩⟩)]
        | succ y ih =>
          intro p h'' y1 y2 F2 a
          have FF : Fr TAt h h'' := (F.mo fun c k z => Or.inl z).tr (F2.mo fun c k z => Or.inr z)
          refine r158_48 (FF.C C) (PlanAt_SH FF.1 K) (RuleAt_SH FF.1 M) (hR_fr FF P) ?_
          have rp : aI h'' 115 p = lkT Rs S m f p := by
            rw [F2.a 115 (fun k z => by omega)]
            unfold lkT
            rw [ei]
            exact (V.1 p y2 (by omega)).1
          have pr := (momI_WF (f := f) (Rs := Rs) BW i).2.1 p y2 (by omega)
          have rr : 0 ≤ lkT Rs S m f p ∧ lkT Rs S m f p < 8 := by unfold lkT; rw [ei]; omega
          rw [FF.f pl 2 (fun z => by have := R.1; unfold TAt TAh at z; omega), R.2.1.1.2.2.1, rp]
          have ap := a p (lkT Rs S m f p) y2 (by omega) rr.1 rr.2
          have tp := tl p (lkT Rs S m f p) y2 (by omega) rr.1 rr.2
          have bo := bI_or (p < p ∧ lkT Rs S m f p = lkT Rs S m f p)
          rw [bI_neg (show ¬ (p < p ∧ lkT Rs S m f p = lkT Rs S m f p) from fun z => absurd z.1 (by omega))] at ap
          rw [ap]
          refine ⟨by omega, fun y => absurd y (by omega), fun _ => ⟨by omega, by omega, ?_⟩⟩
          refine ih (p + 1) _ (by omega) (by omega) (F2.wA rfl) (fun q x q0 q1 x0 x1 => ?_)
          rw [aI_wA (by omega)]
          by_cases c : q = p ∧ x = lkT Rs S m f p
          · obtain ⟨rfl, rfl⟩ := c
            rw [uu_eq, bI_pos ⟨by omega, rfl⟩]; omega
          · rw [uu_ne (by omega) (by omega) (by omega), a q x q0 q1 x0 x1, bI_iff (show (q < p ∧ lkT Rs S m f q = x) ↔ (q < p + 1 ∧ lkT Rs S m f q = x) from ⟨fun z => ⟨by omega, z.2⟩, fun z => ⟨?_, z.2⟩⟩)]
            apply Classical.byContradiction
            intro y
            have : q = p := by omega
            subst this
            exact c ⟨rfl, z.2.symm⟩
      refine l4 (S 2).toNat 0 h' (by omega) (by omega) Fr.rf (fun q x q0 q1 x0 x1 => ?_)
      rw [a5, bI_neg (fun z => absurd z.1 (by omega))]; omega
    | succ z ih =>
      intro i h' e F V
      refine r158_16 (F.C C) (PlanAt_SH F.1 K) (RuleAt_SH F.1 M) (hR_fr F P) ⟨by omega, by omega, fun y => absurd y (by omega), fun _ => ?_⟩
      refine m90t (n := n) C K (by omega) R.1 R.2.1 W9 U hf rfl F (BS.tr (momI_Stat BW i)) V ((momI_WF BW i).up (by omega)) (fun h'' F2 V2 _ _ => ⟨rfl, F2.1, ?_⟩)
      exact ih (i + 1) h'' (by omega) (F.tr F2) V2
  exact lp m.toNat 0 h5 (by omega) F5 (p5.2.rep R.2.1 W)
theorem TAt_b {c k : Nat} (z : TAt c k) : ((c < 4 ∨ 14 < c) ∧ (c < 52 ∨ 72 < c)) ∧ c < 281 := by unfold TAt TAh at z; omega
theorem CU.frT {h h' : AH} {n : Int} {Rs : Int → Ru} (x : CU h n Rs) (F : Fr TAt h h') : CU h' n Rs := x.fr F (fun z => by unfold TAt TAh at z; omega) (fun c k z c0 c1 => by unfold TAt TAh at z; omega)
-- OutwardDoors.tallyFitting(I)I at 0
set_option maxRecDepth 20000 in
set_option maxHeartbeats 4000000 in
theorem r157_0 {X : Cst} {d : Nat} {x1 : Int} {pl : Nat} {g : Nat} {h : AH} {Q : Post} (C_h : Lay h) (K_h_0 : PlanAt h pl) (K_h_1 : RuleAt h g) (P_h : hR h 52 0 = some pl) (hd : 1 ≤ d)
  (w : (∀ h3, SH h h3 → (Fr (fun c2 _ => c2 = 255) h h3 ∧ ∀ k, 0 ≤ k → k < 32 → aI h3 255 k = 0) → Ex X PG (d + 1) 157 12 [some (.ref 0), some (.int (J x1)), some (.int (J 0)), some (.int (J (-1)))] [] h3 Q)) :
    Ex X PG (d + 1) 157 0 [some (.ref 0), some (.int (J x1)), none, none] [] h Q := by
  refine wpx_ok (cut := [12]) 8 d 157 0 _ _ _ _ ?_
  show hs h 0 = (0, 10) ∧ ∃ q1, hR h 0 12 = some q1 ∧ Ex X PG d 4 0 [some (.ref q1), some (.int (J 0)), none, none] [] h (fun v2 h3 => v2 = none ∧ Ex X PG (d + 1) 157 12 [some (.ref 0), some (.int (J x1)), some (.int (J 0)), some (.int (J (-1)))] [] h3 Q)
  try simp only [aI_wAL, fI_wAL, aL_wA, aL_wF, aI_wA_ne, aI_wF_ne, fI_wA_ne, fI_wF_ne, fI_wF_nk, aL_wAL_ne, J_sameA, J_sameF, aL_same, Nat.add_left_cancel_iff, Nat.add_eq_left, Nat.left_eq_add, not_false_eq_true, Nat.reduceEqDiff, Nat.reduceAdd, J_add, J_sub, J_mul, J_neg, J_and, J_or, J_xor, J_shl, J_shr, J_div, J_i2b, J_i2l, J_l2i, J_lcm, J_max, J_min, J_nab, J_nao, rdA, rdF, rdL, wA_fold, wF_fold, wL_fold, wC_fold]
  refine ⟨(ls0 C_h), _, (lr0_12 C_h), ?_⟩
  refine m4 (h := h) (c := 255) (v := 0) C_h (n := 32) (ls255 C_h) (by decide) (by omega) (by decide) ?_
  intro h3 s4 p5
  replace w := w h3 s4 p5
  refine ⟨rfl, ?_⟩
  have C_h3 := Lay_SH s4 C_h
  have K_h3_0 := PlanAt_SH s4 K_h_0
  have K_h3_1 := RuleAt_SH s4 K_h_1
  have P_h3 := (congrFun (congrFun s4.2 52) 0).trans P_h
  try simp only [aI_wAL, fI_wAL, aL_wA, aL_wF, aI_wA_ne, aI_wF_ne, fI_wA_ne, fI_wF_ne, fI_wF_nk, aL_wAL_ne, J_sameA, J_sameF, aL_same, Nat.add_left_cancel_iff, Nat.add_eq_left, Nat.left_eq_add, not_false_eq_true, Nat.reduceEqDiff, Nat.reduceAdd, J_add, J_sub, J_mul, J_neg, J_and, J_or, J_xor, J_shl, J_shr, J_div, J_i2b, J_i2l, J_l2i, J_lcm, J_max, J_min, J_nab, J_nao, rdA, rdF, rdL, wA_fold, wF_fold, wL_fold, wC_fold]
  exact w
-- OutwardDoors.tallyFitting(I)I at 12
set_option maxRecDepth 20000 in
set_option maxHeartbeats 4000000 in
theorem r157_12 {X : Cst} {d : Nat} {x1 : Int} {x2 : Int} {x3 : Int} {pl : Nat} {g : Nat} {h : AH} {Q : Post} (C_h : Lay h) (K_h_0 : PlanAt h pl) (K_h_1 : RuleAt h g) (P_h : hR h 52 0 = some pl) (hd : 1 ≤ d)
  (w : (-2147483648 ≤ x3 ∧ x3 < 2147483648) ∧ ((fI h 0 13 ≤ x3 → Q (some (.int (J x2))) h) ∧ (¬ fI h 0 13 ≤ x3 → Ex X PG d 153 0 [some (.ref 0), some (.int (J x3)), none, none, none] [] h (fun v4 h5 => ∃ r6 : Int, (-2147483648 ≤ r6 ∧ r6 < 2147483648) ∧ v4 = some (.int (J r6)) ∧ SH h h5 ∧ ((r6 = 0 → Ex X PG (d + 1) 157 12 [some (.ref 0), some (.int (J x1)), some (.int (J x2)), some (.int (J (x3 + 1)))] [] h5 Q) ∧ (¬ r6 = 0 → (g = rad x3 (fI h5 0 13)) ∧ (fI h5 0 13 ≤ 6) ∧ Ex X PG d 158 0 [some (.ref 0), some (.ref g), some (.int (J x1)), none] [] h5 (fun v14 h15 => v14 = none ∧ SH h5 h15 ∧ Ex X PG (d + 1) 157 12 [some (.ref 0), some (.int (J x1)), some (.int (J (x2 + 1))), some (.int (J (x3 + 1)))] [] h15 Q))))))) :
    Ex X PG (d + 1) 157 12 [some (.ref 0), some (.int (J x1)), some (.int (J x2)), some (.int (J x3))] [] h Q := by
  refine wpx_ok (cut := [12]) 17 d 157 12 _ _ _ _ ?_
  show hs h 0 = (0, 10) ∧ (((hF h 0 13) ≤ (J x3) → Q (some (.int (J x2))) h) ∧ (¬ ((hF h 0 13) ≤ (J x3)) → hs h 0 = (0, 10) ∧ Ex X PG d 153 0 [some (.ref 0), some (.int (J x3)), none, none, none] [] h (fun v4 h5 => ∃ r6, v4 = some (.int r6) ∧ ((r6 = (J 0) → Ex X PG (d + 1) 157 12 [some (.ref 0), some (.int (J x1)), some (.int (J x2)), some (.int ((J x3) + (J 1)))] [] h5 Q) ∧ (¬ (r6 = (J 0)) → hs h5 0 = (0, 10) ∧ Ex X PG d 89 0 [some (.ref 0), some (.int (J x3))] [] h5 (fun v9 h10 => ∃ r11, v9 = some (.ref r11) ∧ hs h10 0 = (0, 10) ∧ Ex X PG d 158 0 [some (.ref 0), some (.ref r11), some (.int (J x1)), none] [] h10 (fun v14 h15 => v14 = none ∧ Ex X PG (d + 1) 157 12 [some (.ref 0), some (.int (J x1)), some (.int ((J x2) + (J 1))), some (.int ((J x3) + (J 1)))] [] h15 Q)))))))
  try simp only [aI_wAL, fI_wAL, aL_wA, aL_wF, aI_wA_ne, aI_wF_ne, fI_wA_ne, fI_wF_ne, fI_wF_nk, aL_wAL_ne, J_sameA, J_sameF, aL_same, Nat.add_left_cancel_iff, Nat.add_eq_left, Nat.left_eq_add, not_false_eq_true, Nat.reduceEqDiff, Nat.reduceAdd, J_add, J_sub, J_mul, J_neg, J_and, J_or, J_xor, J_shl, J_shr, J_div, J_i2b, J_i2l, J_l2i, J_lcm, J_max, J_min, J_nab, J_nao, rdA, rdF, rdL, wA_fold, wF_fold, wL_fold, wC_fold]
  refine ⟨(ls0 C_h), ?_⟩
  obtain ⟨k3, w⟩ := w
  refine ⟨fun c1 => ?_, fun c1 => ?_⟩
  · have t2 : fI h 0 13 ≤ x3 := ((Jle (rg_toInt _) k3).mp c1)
    replace w := w.1 t2
    exact w
  · have t2 : ¬ fI h 0 13 ≤ x3 := (fun e => c1 ((Jle (rg_toInt _) k3).mpr e))
    replace w := w.2 t2
    refine ⟨(ls0 C_h), ?_⟩
    refine Ex.mono w (Nat.le_refl _) ?_
    rintro v4 h5 ⟨r6, gr6, rfl, s17, w⟩
    refine ⟨_, rfl, ?_⟩
    have C_h5 := Lay_SH s17 C_h
    have K_h5_0 := PlanAt_SH s17 K_h_0
    have K_h5_1 := RuleAt_SH s17 K_h_1
    have P_h5 := (congrFun (congrFun s17.2 52) 0).trans P_h
    try simp only [aI_wAL, fI_wAL, aL_wA, aL_wF, aI_wA_ne, aI_wF_ne, fI_wA_ne, fI_wF_ne, fI_wF_nk, aL_wAL_ne, J_sameA, J_sameF, aL_same, Nat.add_left_cancel_iff, Nat.add_eq_left, Nat.left_eq_add, not_false_eq_true, Nat.reduceEqDiff, Nat.reduceAdd, J_add, J_sub, J_mul, J_neg, J_and, J_or, J_xor, J_shl, J_shr, J_div, J_i2b, J_i2l, J_l2i, J_lcm, J_max, J_min, J_nab, J_nao, rdA, rdF, rdL, wA_fold, wF_fold, wL_fold, wC_fold]
    refine ⟨fun c7 => ?_, fun c7 => ?_⟩
    · have t8 : r6 = 0 := ((Jeq gr6 (by decide)).mp c7)
      replace w := w.1 t8
      exact w
    · have t8 : ¬ r6 = 0 := (fun e => c7 ((Jeq gr6 (by decide)).mpr e))
      replace w := w.2 t8
      refine ⟨(ls0 C_h5), ?_⟩
      obtain ⟨k12, w⟩ := w
      obtain ⟨k13, w⟩ := w
      refine m89 (h := h5) (f := x3) (pl := pl) (g := g) C_h5 P_h5 K_h5_0 (by omega) k12 k13 k3 ?_
      refine ⟨_, rfl, ?_⟩
      try simp only [aI_wAL, fI_wAL, aL_wA, aL_wF, aI_wA_ne, aI_wF_ne, fI_wA_ne, fI_wF_ne, fI_wF_nk, aL_wAL_ne, J_sameA, J_sameF, aL_same, Nat.add_left_cancel_iff, Nat.add_eq_left, Nat.left_eq_add, not_false_eq_true, Nat.reduceEqDiff, Nat.reduceAdd, J_add, J_sub, J_mul, J_neg, J_and, J_or, J_xor, J_shl, J_shr, J_div, J_i2b, J_i2l, J_l2i, J_lcm, J_max, J_min, J_nab, J_nao, rdA, rdF, rdL, wA_fold, wF_fold, wL_fold, wC_fold]
      refine ⟨(ls0 C_h5), ?_⟩
      refine Ex.mono w (Nat.le_refl _) ?_
      rintro v14 h15 ⟨rfl, s16, w⟩
      refine ⟨rfl, ?_⟩
      have C_h15 := Lay_SH s16 C_h5
      have K_h15_0 := PlanAt_SH s16 K_h5_0
      have K_h15_1 := RuleAt_SH s16 K_h5_1
      have P_h15 := (congrFun (congrFun s16.2 52) 0).trans P_h5
      try simp only [aI_wAL, fI_wAL, aL_wA, aL_wF, aI_wA_ne, aI_wF_ne, fI_wA_ne, fI_wF_ne, fI_wF_nk, aL_wAL_ne, J_sameA, J_sameF, aL_same, Nat.add_left_cancel_iff, Nat.add_eq_left, Nat.left_eq_add, not_false_eq_true, Nat.reduceEqDiff, Nat.reduceAdd, J_add, J_sub, J_mul, J_neg, J_and, J_or, J_xor, J_shl, J_shr, J_div, J_i2b, J_i2l, J_l2i, J_lcm, J_max, J_min, J_nab, J_nao, rdA, rdF, rdL, wA_fold, wF_fold, wL_fold, wC_fold]
      exact w
theorem m157 {X : Cst} {d : Nat} {pl : Nat} {N n m : Int} {Rs : Int → Ru} {S : Int → Int} {h : AH} {Q : Post} (C : Lay h) (P : hR h 52 0 = some pl) (K : PlanAt h pl) (hd : 7 ≤ d) (R : CS h pl S) (W : WF N S) (hN : N ≤ 999) (U : CU h n Rs) (hm : 0 ≤ m ∧ m ≤ 60)
    (k : ∀ h', Fr TAt h h' → (∀ p x, 0 ≤ p → p < S 2 → 0 ≤ x → x < 8 → aI h' 255 (p * 8 + x) = alN (fun g => fit g Rs S) (lkT Rs S m) p x (n + 1).toNat) → Q (some (.int (J (sumN (n + 1).toNat (fun i => bI (fit (i - 1) Rs S)))))) h') : Ex X PG d 157 0 [some (.ref 0), some (.int (J m)), none, none] [] h Q := by
  obtain ⟨d, rfl⟩ : ∃ e, d = e + 1 := ⟨d - 1, by omega⟩
  have b := W.1
  unfold WFb at b
  have un := U.2.1
  have M47 := RuleAt_47 C
  refine r157_0 (g := 47) C K M47 P (by omega) (fun h3 s3 p3 => ?_)
  have F3 : Fr TAt h h3 := p3.1.mo fun c k z => Or.inr z
  have lp : ∀ (z j : Nat) (h' : AH), n + 1 = z + j → Fr TAt h h' → (∀ p x, 0 ≤ p → p < S 2 → 0 ≤ x → x < 8 → aI h' 255 (p * 8 + x) = alN (fun g => fit g Rs S) (lkT Rs S m) p x j) → Ex X PG (d + 1) 157 12 [some (.ref 0), some (.int (J m)), some (.int (J (sumN j (fun i => bI (fit (i - 1) Rs S))))), some (.int (J ((j : Int) - 1)))] [] h' Q := by
    intro z
    induction z with
    | zero =>
      intro j h' e F a
      refine r157_12 (g := 47) (F.C C) (PlanAt_SH F.1 K) (RuleAt_SH F.1 M47) (hR_fr F P) (by omega) ?_
      rw [F.f 0 13 (fun z => by unfold TAt TAh at z; omega), U.1]
      have q := k h' F
      rw [show (n + 1).toNat = j by omega] at q
      exact ⟨by omega, fun _ => q a, fun y => absurd (by omega) y⟩
    | succ z ih =>
      intro j h' e F a
      have R' := R.fr F (fun c k z => TAt_b z)
      have U' := U.frT F
      obtain ⟨M, cr, ok, ap, ap2⟩ := U'.at (f := (j : Int) - 1) (F.C C) (by omega)
      refine r157_12 (g := rad ((j : Int) - 1) n) (F.C C) (PlanAt_SH F.1 K) M (hR_fr F P) (by omega) ?_
      rw [F.f 0 13 (fun z => by unfold TAt TAh at z; omega), U.1]
      refine ⟨by omega, fun y => absurd y (by omega), fun _ => ?_⟩
      refine m153 (n := n) (Rs := Rs) (S := S) (F.C C) (hR_fr F P) (PlanAt_SH F.1 K) (by omega) R' W hN U' (by omega) (fun h5 F5 => ?_)
      refine ⟨_, bI_rg _, rfl, F5.1, fun c => ?_, fun c => ?_⟩
      · have hp : ¬ fit ((j : Int) - 1) Rs S := fun y => by rw [bI_pos y] at c; omega
        have := ih (j + 1) h5 (by omega) (F.tr (F5.mo fun c k z => Or.inl z)) (fun p x p0 p1 x0 x1 => ?_)
        · rw [show sumN (j + 1) (fun i => bI (fit (i - 1) Rs S)) = sumN j (fun i => bI (fit (i - 1) Rs S)) + bI (fit ((j : Int) - 1) Rs S) from rfl, bI_neg hp, Int.add_zero, show ((j + 1 : Nat) : Int) - 1 = (j : Int) - 1 + 1 by omega] at this
          exact this
        · rw [F5.a 255 (fun k z => by unfold TAh at z; omega), a p x p0 p1 x0 x1]
          show _ = alN (fun g => fit g Rs S) (lkT Rs S m) p x j + bI (fit ((j : Int) - 1) Rs S ∧ lkT Rs S m ((j : Int) - 1) p = x)
          rw [bI_neg (fun z => hp z.1), Int.add_zero]
      · have hp : fit ((j : Int) - 1) Rs S := by
          apply Classical.byContradiction
          intro y
          rw [bI_neg y] at c; omega
        have F25 : Fr TAt h h5 := F.tr (F5.mo fun c k z => Or.inl z)
        rw [F5.f 0 13 (fun z => by unfold TAh at z; omega), F.f 0 13 (fun z => by unfold TAt TAh at z; omega), U.1]
        refine ⟨rfl, un.2, ?_⟩
        have a5 : aI h5 255 = aI h' 255 := F5.a 255 (fun k z => by unfold TAh at z; omega)
        refine m158 (n := n) (Rs := Rs) (S := S) (F25.C C) (hR_fr F25 P) (PlanAt_SH F25.1 K) (by omega) (R.fr F25 (fun c k z => TAt_b z)) W hN (U.frT F25) (by omega) hm (fun p x p0 p1 x0 x1 => by rw [a5, a p x p0 p1 x0 x1]; have := alN_b (fun g => fit g Rs S) (lkT Rs S m) p x j; omega) (fun h15 F15 a15 => ⟨rfl, F15.1, ?_⟩)
        have := ih (j + 1) h15 (by omega) (F25.tr F15) (fun p x p0 p1 x0 x1 => ?_)
        · rw [show sumN (j + 1) (fun i => bI (fit (i - 1) Rs S)) = sumN j (fun i => bI (fit (i - 1) Rs S)) + bI (fit ((j : Int) - 1) Rs S) from rfl, bI_pos hp, show ((j + 1 : Nat) : Int) - 1 = (j : Int) - 1 + 1 by omega] at this
          exact this
        · rw [a15 p x p0 p1 x0 x1, a5, a p x p0 p1 x0 x1]
          show _ = alN (fun g => fit g Rs S) (lkT Rs S m) p x j + bI (fit ((j : Int) - 1) Rs S ∧ lkT Rs S m ((j : Int) - 1) p = x)
          rw [bI_iff (show (fit ((j : Int) - 1) Rs S ∧ lkT Rs S m ((j : Int) - 1) p = x) ↔ lkT Rs S m ((j : Int) - 1) p = x from ⟨fun z => z.2, fun z => ⟨hp, z⟩⟩)]
  exact lp (n + 1).toNat 0 h3 (by omega) F3 (fun p x p0 p1 x0 x1 => p3.2 _ (by omega) (by omega))
-- OutwardDoors.mostAlike(I)I at 0
set_option maxRecDepth 20000 in
set_option maxHeartbeats 4000000 in
theorem r159_0 {X : Cst} {d : Nat} {x1 : Int} {pl : Nat} {h : AH} {Q : Post} (C_h : Lay h) (K_h_0 : PlanAt h pl) (P_h : hR h 52 0 = some pl)
  (w : Ex X PG (d + 1) 159 4 [some (.ref 0), some (.int (J x1)), some (.int (J 0)), some (.int (J 0))] [] h Q) :
    Ex X PG (d + 1) 159 0 [some (.ref 0), some (.int (J x1)), none, none] [] h Q := by
  refine wpx_ok (cut := [4]) 4 d 159 0 _ _ _ _ ?_
  show Ex X PG (d + 1) 159 4 [some (.ref 0), some (.int (J x1)), some (.int (J 0)), some (.int (J 0))] [] h Q
  try simp only [aI_wAL, fI_wAL, aL_wA, aL_wF, aI_wA_ne, aI_wF_ne, fI_wA_ne, fI_wF_ne, fI_wF_nk, aL_wAL_ne, J_sameA, J_sameF, aL_same, Nat.add_left_cancel_iff, Nat.add_eq_left, Nat.left_eq_add, not_false_eq_true, Nat.reduceEqDiff, Nat.reduceAdd, J_add, J_sub, J_mul, J_neg, J_and, J_or, J_xor, J_shl, J_shr, J_div, J_i2b, J_i2l, J_l2i, J_lcm, J_max, J_min, J_nab, J_nao, rdA, rdF, rdL, wA_fold, wF_fold, wL_fold, wC_fold]
  exact w
-- OutwardDoors.mostAlike(I)I at 4
set_option maxRecDepth 20000 in
set_option maxHeartbeats 4000000 in
theorem r159_4 {X : Cst} {d : Nat} {x1 : Int} {x2 : Int} {x3 : Int} {pl : Nat} {h : AH} {Q : Post} (C_h : Lay h) (K_h_0 : PlanAt h pl) (P_h : hR h 52 0 = some pl)
  (w : (-2147483648 ≤ x3 ∧ x3 < 2147483648) ∧ ((8 ≤ x3 → Q (some (.int (J x2))) h) ∧ (¬ 8 ≤ x3 → (0 ≤ (x1 * 8) + x3 ∧ (x1 * 8) + x3 < 32) ∧ Ex X PG (d + 1) 159 4 [some (.ref 0), some (.int (J x1)), some (.int (J (imx x2 (aI h 255 ((x1 * 8) + x3))))), some (.int (J (x3 + 1)))] [] h Q))) :
    Ex X PG (d + 1) 159 4 [some (.ref 0), some (.int (J x1)), some (.int (J x2)), some (.int (J x3))] [] h Q := by
  refine wpx_ok (cut := [4]) 16 d 159 4 _ _ _ _ ?_
  show (((J 8) ≤ (J x3) → Q (some (.int (J x2))) h) ∧ (¬ ((J 8) ≤ (J x3)) → hs h 0 = (0, 10) ∧ ∃ q4, hR h 0 12 = some q4 ∧ (hs h q4).1 = 1 ∧ ix (((J x1) * (J 8)) + (J x3)) (hs h q4).2 ∧ Ex X PG (d + 1) 159 4 [some (.ref 0), some (.int (J x1)), some (.int (if (J x2) < (hI h q4 (Int32.toNatClampNeg (((J x1) * (J 8)) + (J x3)))) then (hI h q4 (Int32.toNatClampNeg (((J x1) * (J 8)) + (J x3)))) else (J x2))), some (.int ((J x3) + (J 1)))] [] h Q))
  try simp only [aI_wAL, fI_wAL, aL_wA, aL_wF, aI_wA_ne, aI_wF_ne, fI_wA_ne, fI_wF_ne, fI_wF_nk, aL_wAL_ne, J_sameA, J_sameF, aL_same, Nat.add_left_cancel_iff, Nat.add_eq_left, Nat.left_eq_add, not_false_eq_true, Nat.reduceEqDiff, Nat.reduceAdd, J_add, J_sub, J_mul, J_neg, J_and, J_or, J_xor, J_shl, J_shr, J_div, J_i2b, J_i2l, J_l2i, J_lcm, J_max, J_min, J_nab, J_nao, rdA, rdF, rdL, wA_fold, wF_fold, wL_fold, wC_fold]
  obtain ⟨k3, w⟩ := w
  refine ⟨fun c1 => ?_, fun c1 => ?_⟩
  · have t2 : 8 ≤ x3 := ((Jle (by decide) k3).mp c1)
    replace w := w.1 t2
    exact w
  · have t2 : ¬ 8 ≤ x3 := (fun e => c1 ((Jle (by decide) k3).mpr e))
    replace w := w.2 t2
    refine ⟨(ls0 C_h), _, (lr0_12 C_h), ?_⟩
    obtain ⟨k5, w⟩ := w
    refine ⟨congrArg Prod.fst (ls255 C_h), ixs (ls255 C_h) k5 (by decide), ?_⟩
    exact w
theorem mxN_ge {g : Int → Int} : ∀ (n : Nat) (k : Int), 0 ≤ k → k < n → g k ≤ mxN g n := by
  intro n
  induction n with
  | zero => intro k k0 k1; omega
  | succ n ih =>
    intro k k0 k1
    unfold mxN
    by_cases e : k = n
    · subst e
      split <;> omega
    · have := ih k k0 (by omega)
      split <;> omega
theorem mxN_cut {g : Int → Int} {s : Nat} : ∀ n : Nat, s ≤ n → (∀ k : Int, s ≤ k → k < n → g k = 0) → mxN g n = mxN g s := by
  intro n
  induction n with
  | zero => intro h _; rw [show s = 0 by omega]
  | succ n ih =>
    intro h z
    by_cases e : s = n + 1
    · rw [e]
    · rw [← ih (by omega) (fun k k0 k1 => z k k0 (by omega))]
      have zn := z n (by omega) (by omega)
      have nn : 0 ≤ mxN g n := by
        have : ∀ m : Nat, 0 ≤ mxN g m := by
          intro m
          induction m with
          | zero => exact Int.le_refl 0
          | succ m ih => unfold mxN; split <;> omega
        exact this n
      show (if g n ≤ mxN g n then mxN g n else g n) = _
      rw [if_pos (by omega)]
theorem mxN_cong {g h : Int → Int} : ∀ n : Nat, (∀ k : Int, 0 ≤ k → k < n → g k = h k) → mxN g n = mxN h n := by
  intro n
  induction n with
  | zero => intro _; rfl
  | succ n ih =>
    intro e
    unfold mxN
    rw [ih (fun k k0 k1 => e k k0 (by omega)), e n (by omega) (by omega)]
theorem m159 {X : Cst} {d : Nat} {pl : Nat} {p : Int} {h : AH} {Q : Post} (C : Lay h) (P : hR h 52 0 = some pl) (K : PlanAt h pl) (hd : 1 ≤ d) (hp : 0 ≤ p ∧ p < 4) (hb : ∀ x, 0 ≤ x → x < 8 → 0 ≤ aI h 255 (p * 8 + x) ∧ aI h 255 (p * 8 + x) ≤ 7)
    (k : Q (some (.int (J (mxN (fun x => aI h 255 (p * 8 + x)) 8)))) h) : Ex X PG d 159 0 [some (.ref 0), some (.int (J p)), none, none] [] h Q := by
  obtain ⟨d, rfl⟩ : ∃ e, d = e + 1 := ⟨d - 1, by omega⟩
  have lp : ∀ (z i : Nat), 8 = z + i → Ex X PG (d + 1) 159 4 [some (.ref 0), some (.int (J p)), some (.int (J (mxN (fun x => aI h 255 (p * 8 + x)) i))), some (.int (J (i : Int)))] [] h Q := by
    intro z
    induction z with
    | zero =>
      intro i e
      refine r159_4 C K P ⟨by omega, fun _ => ?_, fun y => absurd (by omega) y⟩
      rw [show i = 8 by omega]; exact k
    | succ z ih =>
      intro i e
      have mb := mxN_b (M := 7) (by decide) i (g := fun x => aI h 255 (p * 8 + x)) (fun k k0 k1 => (hb k k0 (by omega)).2)
      have vb := hb i (by omega) (by omega)
      refine r159_4 C K P ⟨by omega, fun y => absurd y (by omega), fun _ => ⟨by omega, ?_⟩⟩
      rw [imx_if (by omega) (by omega)]
      have := ih (i + 1) (by omega)
      rw [show mxN (fun x => aI h 255 (p * 8 + x)) (i + 1) = if aI h 255 (p * 8 + i) ≤ mxN (fun x => aI h 255 (p * 8 + x)) i then mxN (fun x => aI h 255 (p * 8 + x)) i else aI h 255 (p * 8 + i) from rfl] at this
      by_cases c : mxN (fun x => aI h 255 (p * 8 + x)) i < aI h 255 (p * 8 + i)
      · rw [if_pos c]; rw [if_neg (by omega)] at this; exact this
      · rw [if_neg c]; rw [if_pos (by omega)] at this; exact this
  refine r159_0 C K P ?_
  exact lp 8 0 (by omega)
-- OutwardDoors.look(II)I at 0
set_option maxRecDepth 20000 in
set_option maxHeartbeats 4000000 in
theorem r156_0 {X : Cst} {d : Nat} {x1 : Int} {x2 : Int} {pl : Nat} {S : Int → Int} {h : AH} {Q : Post} (C_h : Lay h) (K_h_0 : PlanAt h pl) (P_h : hR h 52 0 = some pl) (hd : 1 ≤ d)
  (w : (CS h pl S) ∧ ((¬ (0 < S 0) → Q (some (.int (J (-1)))) h) ∧ ((0 < S 0) → (-2147483648 ≤ x1 ∧ x1 < 2147483648) ∧ ((x1 < 0 → Q (some (.int (J (-1)))) h) ∧ (¬ x1 < 0 → ((60 < x1 → Q (some (.int (J (-1)))) h) ∧ (¬ 60 < x1 → (-2147483648 ≤ x2 ∧ x2 < 2147483648) ∧ ((x2 < 0 → Q (some (.int (J (-1)))) h) ∧ (¬ x2 < 0 → ((x2 ≤ 1 → Ex X PG d 157 0 [some (.ref 0), some (.int (J x1)), none, none] [] h (fun v17 h18 => ∃ r19 : Int, (-2147483648 ≤ r19 ∧ r19 < 2147483648) ∧ v17 = some (.int (J r19)) ∧ SH h h18 ∧ ((¬ r19 = 0 → Ex X PG (d + 1) 156 49 [some (.ref 0), some (.int (J x1)), some (.int (J x2)), some (.int (J (-2))), some (.int (J (-2))), some (.int (J 0)), none] [] h18 Q) ∧ (r19 = 0 → Q (some (.int (J (-2)))) h18)))) ∧ (¬ x2 ≤ 1 → Q (some (.int (J (-1)))) h))))))))))) :
    Ex X PG (d + 1) 156 0 [some (.ref 0), some (.int (J x1)), some (.int (J x2)), none, none, none, none] [] h Q := by
  refine wpx_ok (cut := [49]) 23 d 156 0 _ _ _ _ ?_
  show hs h 0 = (0, 10) ∧ Ex X PG d 86 0 [some (.ref 0)] [] h (fun v1 h2 => ∃ r3, v1 = some (.int r3) ∧ ((r3 = (J 0) → Q (some (.int (J (-1)))) h2) ∧ (¬ (r3 = (J 0)) → (((J x1) < (J 0) → Q (some (.int (J (-1)))) h2) ∧ (¬ ((J x1) < (J 0)) → (((J 60) < (J x1) → Q (some (.int (J (-1)))) h2) ∧ (¬ ((J 60) < (J x1)) → (((J x2) < (J 0) → Q (some (.int (J (-1)))) h2) ∧ (¬ ((J x2) < (J 0)) → (((J x2) ≤ (J 1) → hs h2 0 = (0, 10) ∧ Ex X PG d 157 0 [some (.ref 0), some (.int (J x1)), none, none] [] h2 (fun v17 h18 => ∃ r19, v17 = some (.int r19) ∧ ((¬ r19 = (J 0) → Ex X PG (d + 1) 156 49 [some (.ref 0), some (.int (J x1)), some (.int (J x2)), some (.int (J (-2))), some (.int (J (-2))), some (.int (J 0)), none] [] h18 Q) ∧ (¬ (¬ r19 = (J 0)) → Q (some (.int (J (-2)))) h18)))) ∧ (¬ ((J x2) ≤ (J 1)) → Q (some (.int (J (-1)))) h2)))))))))))
  try simp only [aI_wAL, fI_wAL, aL_wA, aL_wF, aI_wA_ne, aI_wF_ne, fI_wA_ne, fI_wF_ne, fI_wF_nk, aL_wAL_ne, J_sameA, J_sameF, aL_same, Nat.add_left_cancel_iff, Nat.add_eq_left, Nat.left_eq_add, not_false_eq_true, Nat.reduceEqDiff, Nat.reduceAdd, J_add, J_sub, J_mul, J_neg, J_and, J_or, J_xor, J_shl, J_shr, J_div, J_i2b, J_i2l, J_l2i, J_lcm, J_max, J_min, J_nab, J_nao, rdA, rdF, rdL, wA_fold, wF_fold, wL_fold, wC_fold]
  refine ⟨(ls0 C_h), ?_⟩
  obtain ⟨k4, w⟩ := w
  refine m86 (h := h)  (S := S) (pl := pl) C_h P_h K_h_0 (by omega) k4 ?_
  refine ⟨_, rfl, ?_⟩
  try simp only [aI_wAL, fI_wAL, aL_wA, aL_wF, aI_wA_ne, aI_wF_ne, fI_wA_ne, fI_wF_ne, fI_wF_nk, aL_wAL_ne, J_sameA, J_sameF, aL_same, Nat.add_left_cancel_iff, Nat.add_eq_left, Nat.left_eq_add, not_false_eq_true, Nat.reduceEqDiff, Nat.reduceAdd, J_add, J_sub, J_mul, J_neg, J_and, J_or, J_xor, J_shl, J_shr, J_div, J_i2b, J_i2l, J_l2i, J_lcm, J_max, J_min, J_nab, J_nao, rdA, rdF, rdL, wA_fold, wF_fold, wL_fold, wC_fold]
  refine ⟨fun c5 => ?_, fun c5 => ?_⟩
  · have t6 : ¬ (0 < S 0) := ((bI0 _).mp c5)
    replace w := w.1 t6
    exact w
  · have t6 : (0 < S 0) := (Classical.byContradiction fun n => c5 ((bI0 _).mpr n))
    replace w := w.2 t6
    obtain ⟨k9, w⟩ := w
    refine ⟨fun c7 => ?_, fun c7 => ?_⟩
    · have t8 : x1 < 0 := ((Jlt k9 (by decide)).mp c7)
      replace w := w.1 t8
      exact w
    · have t8 : ¬ x1 < 0 := (fun e => c7 ((Jlt k9 (by decide)).mpr e))
      replace w := w.2 t8
      refine ⟨fun c10 => ?_, fun c10 => ?_⟩
      · have t11 : 60 < x1 := ((Jlt (by decide) k9).mp c10)
        replace w := w.1 t11
        exact w
      · have t11 : ¬ 60 < x1 := (fun e => c10 ((Jlt (by decide) k9).mpr e))
        replace w := w.2 t11
        obtain ⟨k14, w⟩ := w
        refine ⟨fun c12 => ?_, fun c12 => ?_⟩
        · have t13 : x2 < 0 := ((Jlt k14 (by decide)).mp c12)
          replace w := w.1 t13
          exact w
        · have t13 : ¬ x2 < 0 := (fun e => c12 ((Jlt k14 (by decide)).mpr e))
          replace w := w.2 t13
          refine ⟨fun c15 => ?_, fun c15 => ?_⟩
          · have t16 : x2 ≤ 1 := ((Jle k14 (by decide)).mp c15)
            replace w := w.1 t16
            refine ⟨(ls0 C_h), ?_⟩
            refine Ex.mono w (Nat.le_refl _) ?_
            rintro v17 h18 ⟨r19, gr19, rfl, s22, w⟩
            refine ⟨_, rfl, ?_⟩
            have C_h18 := Lay_SH s22 C_h
            have K_h18_0 := PlanAt_SH s22 K_h_0
            have P_h18 := (congrFun (congrFun s22.2 52) 0).trans P_h
            try simp only [aI_wAL, fI_wAL, aL_wA, aL_wF, aI_wA_ne, aI_wF_ne, fI_wA_ne, fI_wF_ne, fI_wF_nk, aL_wAL_ne, J_sameA, J_sameF, aL_same, Nat.add_left_cancel_iff, Nat.add_eq_left, Nat.left_eq_add, not_false_eq_true, Nat.reduceEqDiff, Nat.reduceAdd, J_add, J_sub, J_mul, J_neg, J_and, J_or, J_xor, J_shl, J_shr, J_div, J_i2b, J_i2l, J_l2i, J_lcm, J_max, J_min, J_nab, J_nao, rdA, rdF, rdL, wA_fold, wF_fold, wL_fold, wC_fold]
            refine ⟨fun c20 => ?_, fun c20 => ?_⟩
            · have t21 : ¬ r19 = 0 := (fun e => c20 ((Jeq gr19 (by decide)).mpr e))
              replace w := w.1 t21
              exact w
            · have t21 : r19 = 0 := ((Jeq gr19 (by decide)).mp (Classical.byContradiction c20))
              replace w := w.2 t21
              exact w
          · have t16 : ¬ x2 ≤ 1 := (fun e => c15 ((Jle k14 (by decide)).mpr e))
            replace w := w.2 t16
            exact w
-- OutwardDoors.look(II)I at 49
set_option maxRecDepth 20000 in
set_option maxHeartbeats 4000000 in
theorem r156_49 {X : Cst} {d : Nat} {x1 : Int} {x2 : Int} {x3 : Int} {x4 : Int} {x5 : Int} {l6 : Option Value} {pl : Nat} {h : AH} {Q : Post} (C_h : Lay h) (K_h_0 : PlanAt h pl) (P_h : hR h 52 0 = some pl)
  (w : (-2147483648 ≤ x5 ∧ x5 < 2147483648) ∧ ((fI h pl 2 ≤ x5 → (-2147483648 ≤ x2 ∧ x2 < 2147483648) ∧ ((¬ x2 = 0 → Q (some (.int (J x4))) h) ∧ (x2 = 0 → Q (some (.int (J x3))) h))) ∧ (¬ fI h pl 2 ≤ x5 → Ex X PG d 159 0 [some (.ref 0), some (.int (J x5)), none, none] [] h (fun v9 h10 => ∃ r11 : Int, (-2147483648 ≤ r11 ∧ r11 < 2147483648) ∧ v9 = some (.int (J r11)) ∧ SH h h10 ∧ (-2147483648 ≤ x3 ∧ x3 < 2147483648) ∧ ((x3 < 0 → Ex X PG (d + 1) 156 49 [some (.ref 0), some (.int (J x1)), some (.int (J x2)), some (.int (J x5)), some (.int (J r11)), some (.int (J (x5 + 1))), some (.int (J r11))] [] h10 Q) ∧ (¬ x3 < 0 → (-2147483648 ≤ x4 ∧ x4 < 2147483648) ∧ ((x4 ≤ r11 → Ex X PG (d + 1) 156 49 [some (.ref 0), some (.int (J x1)), some (.int (J x2)), some (.int (J x3)), some (.int (J x4)), some (.int (J (x5 + 1))), some (.int (J r11))] [] h10 Q) ∧ (¬ x4 ≤ r11 → Ex X PG (d + 1) 156 49 [some (.ref 0), some (.int (J x1)), some (.int (J x2)), some (.int (J x5)), some (.int (J r11)), some (.int (J (x5 + 1))), some (.int (J r11))] [] h10 Q)))))))) :
    Ex X PG (d + 1) 156 49 [some (.ref 0), some (.int (J x1)), some (.int (J x2)), some (.int (J x3)), some (.int (J x4)), some (.int (J x5)), l6] [] h Q := by
  refine wpx_ok (cut := [49]) 21 d 156 49 _ _ _ _ ?_
  show hs h 0 = (0, 10) ∧ ∃ q1, hR h 0 5 = some q1 ∧ hs h q1 = (0, 6) ∧ ∃ q2, hR h q1 0 = some q2 ∧ hs h q2 = (0, 2) ∧ (((hF h q2 2) ≤ (J x5) → ((¬ (J x2) = (J 0) → Q (some (.int (J x4))) h) ∧ (¬ (¬ (J x2) = (J 0)) → Q (some (.int (J x3))) h))) ∧ (¬ ((hF h q2 2) ≤ (J x5)) → hs h 0 = (0, 10) ∧ Ex X PG d 159 0 [some (.ref 0), some (.int (J x5)), none, none] [] h (fun v9 h10 => ∃ r11, v9 = some (.int r11) ∧ (((J x3) < (J 0) → Ex X PG (d + 1) 156 49 [some (.ref 0), some (.int (J x1)), some (.int (J x2)), some (.int (J x5)), some (.int r11), some (.int ((J x5) + (J 1))), some (.int r11)] [] h10 Q) ∧ (¬ ((J x3) < (J 0)) → (((J x4) ≤ r11 → Ex X PG (d + 1) 156 49 [some (.ref 0), some (.int (J x1)), some (.int (J x2)), some (.int (J x3)), some (.int (J x4)), some (.int ((J x5) + (J 1))), some (.int r11)] [] h10 Q) ∧ (¬ ((J x4) ≤ r11) → Ex X PG (d + 1) 156 49 [some (.ref 0), some (.int (J x1)), some (.int (J x2)), some (.int (J x5)), some (.int r11), some (.int ((J x5) + (J 1))), some (.int r11)] [] h10 Q)))))))
  try simp only [aI_wAL, fI_wAL, aL_wA, aL_wF, aI_wA_ne, aI_wF_ne, fI_wA_ne, fI_wF_ne, fI_wF_nk, aL_wAL_ne, J_sameA, J_sameF, aL_same, Nat.add_left_cancel_iff, Nat.add_eq_left, Nat.left_eq_add, not_false_eq_true, Nat.reduceEqDiff, Nat.reduceAdd, J_add, J_sub, J_mul, J_neg, J_and, J_or, J_xor, J_shl, J_shr, J_div, J_i2b, J_i2l, J_l2i, J_lcm, J_max, J_min, J_nab, J_nao, rdA, rdF, rdL, wA_fold, wF_fold, wL_fold, wC_fold]
  refine ⟨(ls0 C_h), _, (lr0_5 C_h), ?_⟩
  refine ⟨(ls52 C_h), _, P_h, ?_⟩
  refine ⟨(plan_0 K_h_0), ?_⟩
  obtain ⟨k5, w⟩ := w
  refine ⟨fun c3 => ?_, fun c3 => ?_⟩
  · have t4 : fI h pl 2 ≤ x5 := ((Jle (rg_toInt _) k5).mp c3)
    replace w := w.1 t4
    obtain ⟨k8, w⟩ := w
    refine ⟨fun c6 => ?_, fun c6 => ?_⟩
    · have t7 : ¬ x2 = 0 := (fun e => c6 ((Jeq k8 (by decide)).mpr e))
      replace w := w.1 t7
      exact w
    · have t7 : x2 = 0 := ((Jeq k8 (by decide)).mp (Classical.byContradiction c6))
      replace w := w.2 t7
      exact w
  · have t4 : ¬ fI h pl 2 ≤ x5 := (fun e => c3 ((Jle (rg_toInt _) k5).mpr e))
    replace w := w.2 t4
    refine ⟨(ls0 C_h), ?_⟩
    refine Ex.mono w (Nat.le_refl _) ?_
    rintro v9 h10 ⟨r11, gr11, rfl, s18, w⟩
    refine ⟨_, rfl, ?_⟩
    have C_h10 := Lay_SH s18 C_h
    have K_h10_0 := PlanAt_SH s18 K_h_0
    have P_h10 := (congrFun (congrFun s18.2 52) 0).trans P_h
    try simp only [aI_wAL, fI_wAL, aL_wA, aL_wF, aI_wA_ne, aI_wF_ne, fI_wA_ne, fI_wF_ne, fI_wF_nk, aL_wAL_ne, J_sameA, J_sameF, aL_same, Nat.add_left_cancel_iff, Nat.add_eq_left, Nat.left_eq_add, not_false_eq_true, Nat.reduceEqDiff, Nat.reduceAdd, J_add, J_sub, J_mul, J_neg, J_and, J_or, J_xor, J_shl, J_shr, J_div, J_i2b, J_i2l, J_l2i, J_lcm, J_max, J_min, J_nab, J_nao, rdA, rdF, rdL, wA_fold, wF_fold, wL_fold, wC_fold]
    obtain ⟨k14, w⟩ := w
    refine ⟨fun c12 => ?_, fun c12 => ?_⟩
    · have t13 : x3 < 0 := ((Jlt k14 (by decide)).mp c12)
      replace w := w.1 t13
      exact w
    · have t13 : ¬ x3 < 0 := (fun e => c12 ((Jlt k14 (by decide)).mpr e))
      replace w := w.2 t13
      obtain ⟨k17, w⟩ := w
      refine ⟨fun c15 => ?_, fun c15 => ?_⟩
      · have t16 : x4 ≤ r11 := ((Jle k17 gr11).mp c15)
        replace w := w.1 t16
        exact w
      · have t16 : ¬ x4 ≤ r11 := (fun e => c15 ((Jle k17 gr11).mpr e))
        replace w := w.2 t16
        exact w
theorem sumN_bI_pos {R : Int → Prop} : ∀ (n : Nat) (k : Int), 0 ≤ k → k < n → R k → 1 ≤ sumN n (fun o => bI (R o)) := by
  intro n
  induction n with
  | zero => intro k k0 k1; omega
  | succ n ih =>
    intro k k0 k1 r
    have nb := sumN_bI_b R n
    have bo := bI_or (R n)
    show 1 ≤ sumN n (fun o => bI (R o)) + bI (R n)
    by_cases e : k = n
    · subst e; rw [bI_pos r]; omega
    · have := ih k k0 (by omega) r; omega
theorem sumN_bI_0 {R : Int → Prop} (n : Nat) (h : ∀ k : Int, 0 ≤ k → k < n → ¬ R k) : sumN n (fun o => bI (R o)) = 0 := by
  rw [sumN_cong (h := fun _ => 0) n (fun p p0 p1 => bI_neg (h p p0 p1))]
  clear h
  induction n with
  | zero => rfl
  | succ n ih => show sumN n _ + 0 = 0; rw [ih]; rfl
theorem m156 {X : Cst} {d : Nat} {pl : Nat} {N n m w : Int} {Rs : Int → Ru} {S : Int → Int} {h : AH} {Q : Post} (C : Lay h) (P : hR h 52 0 = some pl) (K : PlanAt h pl) (hd : 8 ≤ d) (R : CS h pl S) (W : WF N S) (hN : N ≤ 999) (U : CU h n Rs) (g1 : -2147483648 ≤ m ∧ m < 2147483648) (g2 : -2147483648 ≤ w ∧ w < 2147483648)
    (k : ∀ h', Fr TAt h h' → Q (some (.int (J (anLook Rs S n m w)))) h') : Ex X PG d 156 0 [some (.ref 0), some (.int (J m)), some (.int (J w)), none, none, none, none] [] h Q := by
  obtain ⟨d, rfl⟩ : ∃ e, d = e + 1 := ⟨d - 1, by omega⟩
  have b := W.1
  unfold WFb at b
  have un := U.2.1
  obtain ⟨BW, BS⟩ := begS_WF W
  unfold anLook at k
  refine r156_0 (S := S) C K P (by omega) ⟨R, fun c => ?_, fun c => ⟨g1, fun c2 => ?_, fun c2 => ⟨fun c3 => ?_, fun c3 => ⟨g2, fun c4 => ?_, fun c4 => ⟨fun c5 => ?_, fun c5 => ?_⟩⟩⟩⟩⟩
  · rw [if_neg (fun z => c z.1)] at k; exact k h Fr.rf
  · rw [if_neg (fun z => absurd z.2.1 (by omega))] at k; exact k h Fr.rf
  · rw [if_neg (fun z => absurd z.2.1 (by omega))] at k; exact k h Fr.rf
  · rw [if_neg (fun z => absurd z.2.2 (by omega))] at k; exact k h Fr.rf
  · rw [if_pos ⟨c, by omega, by omega⟩] at k
    refine m157 (n := n) (Rs := Rs) (S := S) C P K (by omega) R W hN U (by omega) (fun h18 F18 a18 => ?_)
    have cb := sumN_bI_b (fun i => fit (i - 1) Rs S) (n + 1).toNat
    have rooms : ∀ g p, 0 ≤ p → p < S 2 → 0 ≤ lkT Rs S m g p ∧ lkT Rs S m g p < S 0 := by
      intro g p p0 p1
      have u2 : momI g Rs m.toNat (begS S) 2 = S 2 := by rw [momI_k BW (Or.inl (by decide))]; exact begS_k W (by decide) (by decide)
      have u0 : momI g Rs m.toNat (begS S) 0 = S 0 := by rw [momI_k BW (Or.inl (by decide))]; exact begS_k W (by decide) (by decide)
      have := (momI_WF (f := g) (Rs := Rs) BW m.toNat).2.1 p p0 (by omega)
      unfold lkT
      omega
    have ms : ∀ p, 0 ≤ p → p < S 2 → mxN (fun x => aI h18 255 (p * 8 + x)) 8 = mst (fun g => fit g Rs S) (lkT Rs S m) n (S 0) p := by
      intro p p0 p1
      unfold mst
      rw [mxN_cong 8 (h := fun x => alN (fun g => fit g Rs S) (lkT Rs S m) p x (n + 1).toNat) (fun x x0 x1 => a18 p x p0 p1 x0 (by omega))]
      refine mxN_cut 8 (by omega) (fun x x0 x1 => ?_)
      exact sumN_bI_0 _ (fun i _ _ z => by have := rooms (i - 1) p p0 p1; omega)
    refine ⟨_, by omega, rfl, F18.1, fun c6 => ?_, fun c6 => ?_⟩
    · -- somebody's rule fits
      have ex : ∃ i : Int, 0 ≤ i ∧ i < (n + 1).toNat ∧ fit (i - 1) Rs S := by
        apply Classical.byContradiction
        intro z
        exact c6 (sumN_bI_0 _ (fun i i0 i1 y => z ⟨i, i0, i1, y⟩))
      obtain ⟨g, g0, g1', gf⟩ := ex
      have pos : ∀ p, 0 ≤ p → p < S 2 → 1 ≤ mst (fun g => fit g Rs S) (lkT Rs S m) n (S 0) p := by
        intro p p0 p1
        have rr := rooms (g - 1) p p0 p1
        have a1 : 1 ≤ alN (fun g => fit g Rs S) (lkT Rs S m) p (lkT Rs S m (g - 1) p) (n + 1).toNat := sumN_bI_pos _ g g0 g1' ⟨gf, rfl⟩
        have a2 := mxN_ge (g := fun x => alN (fun g => fit g Rs S) (lkT Rs S m) p x (n + 1).toNat) (S 0).toNat (lkT Rs S m (g - 1) p) rr.1 (by omega)
        unfold mst
        omega
      have mb := fun p => mst_b (fun g => fit g Rs S) (lkT Rs S m) (S 0) p un
      have lb := lkF_b mb
      have kk := k h18 F18
      have lp : ∀ (z p : Nat) (t : Int × Int) (l6 : Option Value), S 2 = z + p → t = lkF (mst (fun g => fit g Rs S) (lkT Rs S m) n (S 0)) p → Ex X PG (d + 1) 156 49 [some (.ref 0), some (.int (J m)), some (.int (J w)), some (.int (J t.1)), some (.int (J t.2)), some (.int (J (p : Int))), l6] [] h18 Q := by
        intro z
        induction z with
        | zero =>
          intro p t l6 e1 e2
          refine r156_49 (F18.C C) (PlanAt_SH F18.1 K) (hR_fr F18 P) ?_
          rw [F18.f pl 2 (fun z => by have := R.1; unfold TAt TAh at z; omega), R.2.1.1.2.2.1]
          refine ⟨by omega, fun _ => ⟨g2, fun c7 => ?_, fun c7 => ?_⟩, fun y => absurd (by omega) y⟩
          all_goals rw [show (S 2).toNat = p by omega, ← e2] at kk
          · rw [if_neg c7] at kk; exact kk
          · rw [if_pos c7] at kk; exact kk
        | succ z ih =>
          intro p t l6 e1 e2
          have tb := lb p
          rw [← e2] at tb
          have un' : lkF (mst (fun g => fit g Rs S) (lkT Rs S m) n (S 0)) (p + 1) = if mst (fun g => fit g Rs S) (lkT Rs S m) n (S 0) p = 0 then lkF (mst (fun g => fit g Rs S) (lkT Rs S m) n (S 0)) p else if (lkF (mst (fun g => fit g Rs S) (lkT Rs S m) n (S 0)) p).1 < 0 then ((p : Int), mst (fun g => fit g Rs S) (lkT Rs S m) n (S 0) p) else if mst (fun g => fit g Rs S) (lkT Rs S m) n (S 0) p < (lkF (mst (fun g => fit g Rs S) (lkT Rs S m) n (S 0)) p).2 then ((p : Int), mst (fun g => fit g Rs S) (lkT Rs S m) n (S 0) p) else lkF (mst (fun g => fit g Rs S) (lkT Rs S m) n (S 0)) p := rfl
          have mp := mb p
          have po := pos p (by omega) (by omega)
          rw [← e2, if_neg (by omega)] at un'
          refine r156_49 (F18.C C) (PlanAt_SH F18.1 K) (hR_fr F18 P) ?_
          rw [F18.f pl 2 (fun z => by have := R.1; unfold TAt TAh at z; omega), R.2.1.1.2.2.1]
          refine ⟨by omega, fun y => absurd y (by omega), fun _ => ?_⟩
          refine m159 (F18.C C) (hR_fr F18 P) (PlanAt_SH F18.1 K) (by omega) (by omega) (fun x x0 x1 => ?_) ?_
          · rw [a18 p x (by omega) (by omega) x0 x1]
            have := alN_b (fun g => fit g Rs S) (lkT Rs S m) p x (n + 1).toNat
            omega
          rw [ms p (by omega) (by omega)]
          refine ⟨_, by omega, rfl, SH.rf, by omega, fun c7 => ?_, fun c7 => ⟨by omega, fun c8 => ?_, fun c8 => ?_⟩⟩
          · rw [if_pos c7] at un'; exact ih (p + 1) (_, _) _ (by omega) un'.symm
          · rw [if_neg c7, if_neg (by omega)] at un'; exact ih (p + 1) t _ (by omega) un'.symm
          · rw [if_neg c7, if_pos (by omega)] at un'; exact ih (p + 1) (_, _) _ (by omega) un'.symm
      exact lp (S 2).toNat 0 (-2, -2) none (by omega) rfl
    · -- no rule fits
      have none' : ∀ i : Int, 0 ≤ i → i < (n + 1).toNat → ¬ fit (i - 1) Rs S := by
        intro i i0 i1 y
        have := sumN_bI_pos (R := fun i => fit (i - 1) Rs S) _ i i0 i1 y
        omega
      have mz : ∀ p, mst (fun g => fit g Rs S) (lkT Rs S m) n (S 0) p = 0 := by
        intro p
        unfold mst
        exact mxN_cut (s := 0) _ (by omega) (fun x _ _ => sumN_bI_0 (R := fun i => fit (i - 1) Rs S ∧ lkT Rs S m (i - 1) p = x) _ (fun i i0 i1 z => none' i i0 i1 z.1))
      have lz : ∀ p : Nat, lkF (mst (fun g => fit g Rs S) (lkT Rs S m) n (S 0)) p = (-2, -2) := by
        intro p
        induction p with
        | zero => rfl
        | succ p ih => unfold lkF; rw [if_pos (mz p)]; exact ih
      have kk := k h18 F18
      rw [lz] at kk
      by_cases c7 : w = 0
      · rw [if_pos c7] at kk; exact kk
      · rw [if_neg c7] at kk; exact kk
  · rw [if_neg (fun z => absurd z.2.2 (by omega))] at k; exact k h Fr.rf
