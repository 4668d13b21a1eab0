/-! The class's clauses. -/
-- OutwardDoors$CastleReader.readDoor(Z)V at 0
set_option maxRecDepth 20000 in
set_option maxHeartbeats 4000000 in
theorem r40_0 {X : Cst} {d : Nat} {x1 : Int} {pl : Nat} {h : AH} {Q : Post} (C_h : Lay h) (K_h_0 : PlanAt h pl) (P_h : hR h 3 1 = some pl)
  (w : Ex X PG d 35 0 [some (.ref 1), some (.int (J 0)), some (.int (J ((fI h pl 0) - 1))), some (.int (J 0)), none] [] h (fun v3 h4 => ∃ r5 : Int, (-2147483648 ≤ r5 ∧ r5 < 2147483648) ∧ v3 = some (.int (J r5)) ∧ SH h h4 ∧ Ex X PG d 41 0 [some (.ref pl), some (.int (J r5)), none, none] [] h4 (fun v9 h10 => ∃ r11 : Int, (-2147483648 ≤ r11 ∧ r11 < 2147483648) ∧ v9 = some (.int (J r11)) ∧ SH h4 h10 ∧ Ex X PG d 35 0 [some (.ref 1), some (.int (J 0)), some (.int (J ((fI h4 pl 0) - 1))), some (.int (J (ior (shl 1 (iand r5 31)) r11))), none] [] h10 (fun v12 h13 => ∃ r14 : Int, (-2147483648 ≤ r14 ∧ r14 < 2147483648) ∧ v12 = some (.int (J r14)) ∧ SH h10 h13 ∧ ((¬ fI h13 1 6 = 0 → Q none h13) ∧ (fI h13 1 6 = 0 → Ex X PG d 43 0 [some (.ref pl), some (.int (J r5)), some (.int (J r14)), some (.int (J x1))] [] h13 (fun v19 h20 => v19 = none ∧ SH h13 h20 ∧ Q none h20))))))) :
    Ex X PG (d + 1) 40 0 [some (.ref 3), some (.int (J x1)), none, none] [] h Q := by
  refine wpx_ok (cut := []) 40 d 40 0 _ _ _ _ ?_
  show hs h 3 = (0, 0) ∧ ∃ q1, hR h 3 0 = some q1 ∧ hs h 3 = (0, 0) ∧ ∃ q2, hR h 3 1 = some q2 ∧ hs h q2 = (0, 2) ∧ hs h q1 = (0, 8) ∧ Ex X PG d 35 0 [some (.ref q1), some (.int (J 0)), some (.int ((hF h q2 0) - (J 1))), some (.int (J 0)), none] [] h (fun v3 h4 => ∃ r5, v3 = some (.int r5) ∧ hs h4 3 = (0, 0) ∧ ∃ q6, hR h4 3 0 = some q6 ∧ hs h4 3 = (0, 0) ∧ ∃ q7, hR h4 3 1 = some q7 ∧ hs h4 q7 = (0, 2) ∧ hs h4 3 = (0, 0) ∧ ∃ q8, hR h4 3 1 = some q8 ∧ hs h4 q8 = (0, 2) ∧ Ex X PG d 41 0 [some (.ref q8), some (.int r5), none, none] [] h4 (fun v9 h10 => ∃ r11, v9 = some (.int r11) ∧ hs h10 q6 = (0, 8) ∧ Ex X PG d 35 0 [some (.ref q6), some (.int (J 0)), some (.int ((hF h4 q7 0) - (J 1))), some (.int (((J 1) <<< (r5 &&& J 31)) ||| r11)), none] [] h10 (fun v12 h13 => ∃ r14, v12 = some (.int r14) ∧ hs h13 3 = (0, 0) ∧ ∃ q15, hR h13 3 0 = some q15 ∧ hs h13 q15 = (0, 8) ∧ ((¬ (hF h13 q15 6) = (J 0) → Q none h13) ∧ (¬ (¬ (hF h13 q15 6) = (J 0)) → hs h13 3 = (0, 0) ∧ ∃ q18, hR h13 3 1 = some q18 ∧ hs h13 q18 = (0, 2) ∧ Ex X PG d 43 0 [some (.ref q18), some (.int r5), some (.int r14), some (.int (J x1))] [] h13 (fun v19 h20 => v19 = none ∧ Q none h20))))))
  try simp only [aI_wAL, fI_wAL, aL_wA, aL_wF, aI_wA_ne, aI_wF_ne, fI_wA_ne, fI_wF_ne, fI_wF_nk, aL_wAL_ne, J_sameA, J_sameF, aL_same, Nat.add_left_cancel_iff, Nat.add_eq_left, Nat.left_eq_add, not_false_eq_true, Nat.reduceEqDiff, Nat.reduceAdd, J_add, J_sub, J_mul, J_neg, J_and, J_or, J_xor, J_shl, J_shr, J_div, J_i2b, J_i2l, J_l2i, J_lcm, J_max, J_min, J_nab, J_nao, rdA, rdF, rdL, wA_fold, wF_fold, wL_fold, wC_fold]
  refine ⟨(ls3 C_h), _, (lr3_0 C_h), ?_⟩
  refine ⟨(ls3 C_h), _, P_h, ?_⟩
  refine ⟨(plan_0 K_h_0), ?_⟩
  refine ⟨(ls1 C_h), ?_⟩
  refine Ex.mono w (Nat.le_refl _) ?_
  rintro v3 h4 ⟨r5, gr5, rfl, s24, w⟩
  refine ⟨_, rfl, ?_⟩
  have C_h4 := Lay_SH s24 C_h
  have K_h4_0 := PlanAt_SH s24 K_h_0
  have P_h4 := (congrFun (congrFun s24.2 3) 1).trans P_h
  try simp only [aI_wAL, fI_wAL, aL_wA, aL_wF, aI_wA_ne, aI_wF_ne, fI_wA_ne, fI_wF_ne, fI_wF_nk, aL_wAL_ne, J_sameA, J_sameF, aL_same, Nat.add_left_cancel_iff, Nat.add_eq_left, Nat.left_eq_add, not_false_eq_true, Nat.reduceEqDiff, Nat.reduceAdd, J_add, J_sub, J_mul, J_neg, J_and, J_or, J_xor, J_shl, J_shr, J_div, J_i2b, J_i2l, J_l2i, J_lcm, J_max, J_min, J_nab, J_nao, rdA, rdF, rdL, wA_fold, wF_fold, wL_fold, wC_fold]
  refine ⟨(ls3 C_h4), _, (lr3_0 C_h4), ?_⟩
  refine ⟨(ls3 C_h4), _, P_h4, ?_⟩
  refine ⟨(plan_0 K_h4_0), ?_⟩
  refine ⟨(ls3 C_h4), _, P_h4, ?_⟩
  refine ⟨(plan_0 K_h4_0), ?_⟩
  refine Ex.mono w (Nat.le_refl _) ?_
  rintro v9 h10 ⟨r11, gr11, rfl, s23, w⟩
  refine ⟨_, rfl, ?_⟩
  have C_h10 := Lay_SH s23 C_h4
  have K_h10_0 := PlanAt_SH s23 K_h4_0
  have P_h10 := (congrFun (congrFun s23.2 3) 1).trans P_h4
  try simp only [aI_wAL, fI_wAL, aL_wA, aL_wF, aI_wA_ne, aI_wF_ne, fI_wA_ne, fI_wF_ne, fI_wF_nk, aL_wAL_ne, J_sameA, J_sameF, aL_same, Nat.add_left_cancel_iff, Nat.add_eq_left, Nat.left_eq_add, not_false_eq_true, Nat.reduceEqDiff, Nat.reduceAdd, J_add, J_sub, J_mul, J_neg, J_and, J_or, J_xor, J_shl, J_shr, J_div, J_i2b, J_i2l, J_l2i, J_lcm, J_max, J_min, J_nab, J_nao, rdA, rdF, rdL, wA_fold, wF_fold, wL_fold, wC_fold]
  refine ⟨(ls1 C_h10), ?_⟩
  refine Ex.mono w (Nat.le_refl _) ?_
  rintro v12 h13 ⟨r14, gr14, rfl, s22, w⟩
  refine ⟨_, rfl, ?_⟩
  have C_h13 := Lay_SH s22 C_h10
  have K_h13_0 := PlanAt_SH s22 K_h10_0
  have P_h13 := (congrFun (congrFun s22.2 3) 1).trans P_h10
  try simp only [aI_wAL, fI_wAL, aL_wA, aL_wF, aI_wA_ne, aI_wF_ne, fI_wA_ne, fI_wF_ne, fI_wF_nk, aL_wAL_ne, J_sameA, J_sameF, aL_same, Nat.add_left_cancel_iff, Nat.add_eq_left, Nat.left_eq_add, not_false_eq_true, Nat.reduceEqDiff, Nat.reduceAdd, J_add, J_sub, J_mul, J_neg, J_and, J_or, J_xor, J_shl, J_shr, J_div, J_i2b, J_i2l, J_l2i, J_lcm, J_max, J_min, J_nab, J_nao, rdA, rdF, rdL, wA_fold, wF_fold, wL_fold, wC_fold]
  refine ⟨(ls3 C_h13), _, (lr3_0 C_h13), ?_⟩
  refine ⟨(ls1 C_h13), ?_⟩
  refine ⟨fun c16 => ?_, fun c16 => ?_⟩
  · have t17 : ¬ fI h13 1 6 = 0 := (fun e => c16 ((Jeq (rg_toInt _) (by decide)).mpr e))
    replace w := w.1 t17
    exact w
  · have t17 : fI h13 1 6 = 0 := ((Jeq (rg_toInt _) (by decide)).mp (Classical.byContradiction c16))
    replace w := w.2 t17
    refine ⟨(ls3 C_h13), _, P_h13, ?_⟩
    refine ⟨(plan_0 K_h13_0), ?_⟩
    refine Ex.mono w (Nat.le_refl _) ?_
    rintro v19 h20 ⟨rfl, s21, w⟩
    refine ⟨rfl, ?_⟩
    have C_h20 := Lay_SH s21 C_h13
    have K_h20_0 := PlanAt_SH s21 K_h13_0
    have P_h20 := (congrFun (congrFun s21.2 3) 1).trans P_h13
    try simp only [aI_wAL, fI_wAL, aL_wA, aL_wF, aI_wA_ne, aI_wF_ne, fI_wA_ne, fI_wF_ne, fI_wF_nk, aL_wAL_ne, J_sameA, J_sameF, aL_same, Nat.add_left_cancel_iff, Nat.add_eq_left, Nat.left_eq_add, not_false_eq_true, Nat.reduceEqDiff, Nat.reduceAdd, J_add, J_sub, J_mul, J_neg, J_and, J_or, J_xor, J_shl, J_shr, J_div, J_i2b, J_i2l, J_l2i, J_lcm, J_max, J_min, J_nab, J_nao, rdA, rdF, rdL, wA_fold, wF_fold, wL_fold, wC_fold]
    exact w
theorem m40 {X : Cst} {d pl : Nat} {L j n w : Int} {tp R : Int → Int} {h : AH} {Q : Post} (C : Lay h) (K : PlanAt h pl) (P : hR h 3 1 = some pl) (hd : 4 ≤ d) (ha : 4 ≤ pl) (hw : w = 0 ∨ w = 1) (T : TkC h tp L j 0) (D : PlanRd h pl R) (I : CI n R) (h14 : ¬ R 1 = 14) (k : CQ h pl tp L (cDor tp L j w R) Q) : Ex X PG d 40 0 [some (.ref 3), some (.int (J w)), none, none] [] h Q := by
  obtain ⟨d, rfl⟩ : ∃ e, d = e + 1 := ⟨d - 1, by omega⟩
  have I0 := I.1
  have I1 := I.2.1
  have tj := T.2.2.1
  refine r40_0 C K P ?_
  rw [D.1.1]
  refine m35n C (by omega) T (by omega) (by omega) (fun z => absurd rfl z) (fun _ e h2 F2 T2 => ⟨0, by omega, rfl, F2.1, ?_⟩) (fun _ e h2 F2 T2 => ⟨_, ?_, rfl, F2.1, ?_⟩)
  · unfold cDor at k
    rw [nmc_neg e] at k
    have e0 : fI h2 pl 0 = R 0 := (D.tk F2 ha).1.1
    have bl := bset_lt (fun r => ¬ aI h2 (pl + 7) (0 * 8 + r) = -1) 8
    rw [e0]
    refine m41 (F2.C C) (PlanAt_SH F2.1 K) (by omega) (by omega) ⟨_, by omega, rfl, SH.rf, ?_⟩
    refine m35 (bar := fun v => iand (shr (ior (shl 1 (iand 0 31)) ((bset 8 (fun r => ¬ aI h2 (pl + 7) (0 * 8 + r) = -1) : Nat) : Int)) (iand v 31)) 1 = 1) (F2.C C) (by omega) T2 (by omega) (by omega) (fun v _ _ _ => Iff.rfl) (fun v _ _ => by omega) (fun _ => ⟨0, by omega, rfl, SH.rf, fun _ => ?_, fun z => absurd (T2.2.2.2.2.2.2.2.symm.trans z) e⟩) (fun z => absurd z e) (fun z => absurd z e)
    exact k.2 e h2 _ (F2.mo (fun _ _ => TTf_c)) T2
  · have v := nmF_0 tj.1 e
    omega
  have v := nmF_0 tj.1 e
  unfold cDor at k
  rw [nmc_pos e] at k
  generalize tkV tp L j = a at *
  have D2 := D.tk F2 ha
  have e0 : fI h2 pl 0 = R 0 := D2.1.1
  have t2 := T2.2.2.1
  have bl := bset_lt (fun r => ¬ aI h2 (pl + 7) (a * 8 + r) = -1) 8
  rw [e0]
  refine m41 (F2.C C) (PlanAt_SH F2.1 K) (by omega) (by omega) ⟨_, by omega, rfl, SH.rf, ?_⟩
  have p2 : 2 ^ a.toNat < 256 := Nat.pow_lt_pow_right (by decide : 1 < 2) (show a.toNat < 8 by omega)
  have ol : 2 ^ a.toNat ||| bset 8 (fun r => ¬ aI h2 (pl + 7) (a * 8 + r) = -1) < 2 ^ 8 := Nat.or_lt_two_pow p2 bl
  have hb : ∀ x : Int, 0 ≤ x → x ≤ R 0 - 1 → x < 31 → (iand (shr (ior (shl 1 (iand a 31)) ((bset 8 (fun r => ¬ aI h2 (pl + 7) (a * 8 + r) = -1) : Nat) : Int)) (iand x 31)) 1 = 1 ↔ dbar R a x) := by
    intro x x0 x1 x2
    rw [shl_1 (by omega), ior_nat (by omega) (by omega), isof_iff (by omega) (by omega)]
    unfold bt
    rw [Int.toNat_natCast, Nat.testBit_or, Bool.or_eq_true, Nat.testBit_two_pow, bset_bit]
    have bw := D2.2.2.2.2.2 a x (by omega) (by omega) x0 (by omega)
    unfold dbar
    unfold BtW at bw
    rw [show ((x.toNat : Nat) : Int) = x by omega]
    constructor
    · intro z
      rcases z with z | z
      · have := of_decide_eq_true z
        exact Or.inl (by omega)
      · rcases bw with q | q
        · exact absurd q.1 z.2
        · exact Or.inr ⟨_, q.1, q.2⟩
    · intro z
      rcases z with z | ⟨m, hm, z⟩
      · exact Or.inl (decide_eq_true (by omega))
      · refine Or.inr ⟨by omega, fun y => ?_⟩
        rcases bw with q | q
        · exact q.2 m hm.1 hm.2 z
        · have := q.1; omega
  refine m35 (bar := dbar R a) (F2.C C) (by omega) T2 (by omega) (by omega) hb (fun x _ _ => by omega) (fun z => absurd rfl z) (fun _ e' h3 F3 T3 => ⟨0, by omega, rfl, F3.1, fun _ => ?_, fun z => absurd (T3.2.2.2.2.2.2.2.symm.trans z) e'⟩) (fun _ e' h3 F3 T3 => ⟨_, ?_, rfl, F3.1, fun z => absurd T3.2.2.2.2.2.2.2 z, fun _ => ?_⟩)
  · rw [nmc_neg e'] at k
    exact k.2 e' h3 _ ((F2.tr F3).mo (fun _ _ => TTf_c)) T3
  · have v' := nmF_0 t2.1 e'
    omega
  have v' := nmF_0 t2.1 e'
  rw [nmc_pos e'] at k
  generalize tkV tp L (nx tp L j) = b at *
  have F := F2.tr F3
  have D3 := D.tk F ha
  have Fd : Fr (TPl pl) h3 (dH h3 pl (R 1) a b) := (((Fr.rf.wA (by unfold TPl; omega)).wA (by unfold TPl; omega)).wA (by unfold TPl; omega)).wA (by unfold TPl; omega)
  have fd : ∀ k, fI (dH h3 pl (R 1) a b) pl k = fI h3 pl k := fun k => by unfold dH; rw [fI_wA_ne (by omega), fI_wA_ne (by omega), fI_wA_ne (by omega), fI_wA_ne (by omega)]
  have Fx := F.mo (U := TCp pl) (fun _ _ => TTf_c)
  refine m43 (p := R 1) (F.C C) (PlanAt_SH F.1 K) (by omega) D3.1.2.1 (by omega) (by omega) (by omega) hw (fun c => ?_) (fun c => ?_)
  · have Fw : Fr (TPl pl) h3 (wF (dH h3 pl (R 1) a b) pl 1 (R 1 + 1)) := Fd.wF (by unfold TPl; omega)
    refine ⟨rfl, Fw.1, k.1 rfl _ (Fx.tr (Fw.mo (fun _ _ => TPl_c))) (T3.fr Fw (fun k => by unfold TPl; omega) (fun k => by unfold TPl; omega)) ?_⟩
    exact D3.dor I (by omega) hw (by omega) (by omega) v'.2.2 (Or.inl ⟨c, rfl⟩) (Fr.rf.wF (by omega)) (fI_wF_eq (by omega)) (by rw [fI_wF_nk (by decide)]; exact fd 3)
  · have Fw : Fr (TPl pl) h3 (wF (wF (dH h3 pl (R 1) a b) pl 3 (ior (fI h3 pl 3) (shl 1 (iand (R 1) 31)))) pl 1 (R 1 + 1)) := (Fd.wF (by unfold TPl; omega)).wF (by unfold TPl; omega)
    refine ⟨rfl, Fw.1, k.1 rfl _ (Fx.tr (Fw.mo (fun _ _ => TPl_c))) (T3.fr Fw (fun k => by unfold TPl; omega) (fun k => by unfold TPl; omega)) ?_⟩
    refine D3.dor I (by omega) hw (by omega) (by omega) v'.2.2 (Or.inr ⟨c, rfl⟩) ((Fr.rf.wF (by omega)).wF (by omega)) (fI_wF_eq (by omega)) ?_
    rw [fI_wF_nk (by decide), fI_wF_eq]
    exact rg_toInt _
noncomputable def kwN (tp : Int → Int) (L j : Int) : Int := pI (wc tp L j = wSc 0) 0 (pI (wc tp L j = wSc 1) 1 (pI (wc tp L j = wSc 2) 2 (pI (wc tp L j = wSc 3) 3 (pI (wc tp L j = wSc 4) 4 (pI (wc tp L j = wSc 5) 5 (-1))))))
/-- a word of the class asked for -/
theorem m31s {X : Cst} {d s : Nat} {L j f : Int} {tp : Int → Int} {h : AH} {Q : Post} (C : Lay h) (hd : 1 ≤ d) (hX : X.2 = X2) (T : TkC h tp L j f) (hs : s < 20) (k1 : wc tp L j = wSc s → Q (some (.int (J 1))) h) (k0 : ¬ wc tp L j = wSc s → Q (some (.int (J 0))) h) : Ex X PG d 31 0 [some (.ref 1), some (.retAddr s), none] [] h Q := by
  refine m31 C hd hX T hs ?_
  by_cases c : wc tp L j = wSc s
  · rw [bI_pos c]; exact k1 c
  · rw [bI_neg c]; exact k0 c
-- OutwardDoors$CastleReader.clauseWord()I at 0
set_option maxRecDepth 20000 in
set_option maxHeartbeats 4000000 in
theorem r30_0 {X : Cst} {d : Nat} {pl : Nat} {h : AH} {Q : Post} (C_h : Lay h) (K_h_0 : PlanAt h pl) (P_h : hR h 3 1 = some pl)
  (w : Ex X PG d 31 0 [some (.ref 1), some (.retAddr 0), none] [] h (fun v2 h3 => ∃ r4 : Int, (-2147483648 ≤ r4 ∧ r4 < 2147483648) ∧ v2 = some (.int (J r4)) ∧ SH h h3 ∧ ((r4 = 0 → Ex X PG d 31 0 [some (.ref 1), some (.retAddr 1), none] [] h3 (fun v8 h9 => ∃ r10 : Int, (-2147483648 ≤ r10 ∧ r10 < 2147483648) ∧ v8 = some (.int (J r10)) ∧ SH h3 h9 ∧ ((r10 = 0 → Ex X PG d 31 0 [some (.ref 1), some (.retAddr 2), none] [] h9 (fun v14 h15 => ∃ r16 : Int, (-2147483648 ≤ r16 ∧ r16 < 2147483648) ∧ v14 = some (.int (J r16)) ∧ SH h9 h15 ∧ ((r16 = 0 → Ex X PG d 31 0 [some (.ref 1), some (.retAddr 3), none] [] h15 (fun v20 h21 => ∃ r22 : Int, (-2147483648 ≤ r22 ∧ r22 < 2147483648) ∧ v20 = some (.int (J r22)) ∧ SH h15 h21 ∧ ((r22 = 0 → Ex X PG d 31 0 [some (.ref 1), some (.retAddr 4), none] [] h21 (fun v26 h27 => ∃ r28 : Int, (-2147483648 ≤ r28 ∧ r28 < 2147483648) ∧ v26 = some (.int (J r28)) ∧ SH h21 h27 ∧ ((r28 = 0 → Ex X PG d 31 0 [some (.ref 1), some (.retAddr 5), none] [] h27 (fun v32 h33 => ∃ r34 : Int, (-2147483648 ≤ r34 ∧ r34 < 2147483648) ∧ v32 = some (.int (J r34)) ∧ SH h27 h33 ∧ ((r34 = 0 → Q (some (.int (J (-1)))) h33) ∧ (¬ r34 = 0 → Q (some (.int (J 5))) h33)))) ∧ (¬ r28 = 0 → Q (some (.int (J 4))) h27)))) ∧ (¬ r22 = 0 → Q (some (.int (J 3))) h21)))) ∧ (¬ r16 = 0 → Q (some (.int (J 2))) h15)))) ∧ (¬ r10 = 0 → Q (some (.int (J 1))) h9)))) ∧ (¬ r4 = 0 → Q (some (.int (J 0))) h3)))) :
    Ex X PG (d + 1) 30 0 [some (.ref 3)] [] h Q := by
  refine wpx_ok (cut := []) 33 d 30 0 _ _ _ _ ?_
  show hs h 3 = (0, 0) ∧ ∃ q1, hR h 3 0 = some q1 ∧ hs h q1 = (0, 8) ∧ Ex X PG d 31 0 [some (.ref q1), some (.retAddr 0), none] [] h (fun v2 h3 => ∃ r4, v2 = some (.int r4) ∧ ((r4 = (J 0) → hs h3 3 = (0, 0) ∧ ∃ q7, hR h3 3 0 = some q7 ∧ hs h3 q7 = (0, 8) ∧ Ex X PG d 31 0 [some (.ref q7), some (.retAddr 1), none] [] h3 (fun v8 h9 => ∃ r10, v8 = some (.int r10) ∧ ((r10 = (J 0) → hs h9 3 = (0, 0) ∧ ∃ q13, hR h9 3 0 = some q13 ∧ hs h9 q13 = (0, 8) ∧ Ex X PG d 31 0 [some (.ref q13), some (.retAddr 2), none] [] h9 (fun v14 h15 => ∃ r16, v14 = some (.int r16) ∧ ((r16 = (J 0) → hs h15 3 = (0, 0) ∧ ∃ q19, hR h15 3 0 = some q19 ∧ hs h15 q19 = (0, 8) ∧ Ex X PG d 31 0 [some (.ref q19), some (.retAddr 3), none] [] h15 (fun v20 h21 => ∃ r22, v20 = some (.int r22) ∧ ((r22 = (J 0) → hs h21 3 = (0, 0) ∧ ∃ q25, hR h21 3 0 = some q25 ∧ hs h21 q25 = (0, 8) ∧ Ex X PG d 31 0 [some (.ref q25), some (.retAddr 4), none] [] h21 (fun v26 h27 => ∃ r28, v26 = some (.int r28) ∧ ((r28 = (J 0) → hs h27 3 = (0, 0) ∧ ∃ q31, hR h27 3 0 = some q31 ∧ hs h27 q31 = (0, 8) ∧ Ex X PG d 31 0 [some (.ref q31), some (.retAddr 5), none] [] h27 (fun v32 h33 => ∃ r34, v32 = some (.int r34) ∧ ((r34 = (J 0) → Q (some (.int (J (-1)))) h33) ∧ (¬ (r34 = (J 0)) → Q (some (.int (J 5))) h33)))) ∧ (¬ (r28 = (J 0)) → Q (some (.int (J 4))) h27)))) ∧ (¬ (r22 = (J 0)) → Q (some (.int (J 3))) h21)))) ∧ (¬ (r16 = (J 0)) → Q (some (.int (J 2))) h15)))) ∧ (¬ (r10 = (J 0)) → Q (some (.int (J 1))) h9)))) ∧ (¬ (r4 = (J 0)) → Q (some (.int (J 0))) h3)))
  try simp only [aI_wAL, fI_wAL, aL_wA, aL_wF, aI_wA_ne, aI_wF_ne, fI_wA_ne, fI_wF_ne, fI_wF_nk, aL_wAL_ne, J_sameA, J_sameF, aL_same, Nat.add_left_cancel_iff, Nat.add_eq_left, Nat.left_eq_add, not_false_eq_true, Nat.reduceEqDiff, Nat.reduceAdd, J_add, J_sub, J_mul, J_neg, J_and, J_or, J_xor, J_shl, J_shr, J_div, J_i2b, J_i2l, J_l2i, J_lcm, J_max, J_min, J_nab, J_nao, rdA, rdF, rdL, wA_fold, wF_fold, wL_fold, wC_fold]
  refine ⟨(ls3 C_h), _, (lr3_0 C_h), ?_⟩
  refine ⟨(ls1 C_h), ?_⟩
  refine Ex.mono w (Nat.le_refl _) ?_
  rintro v2 h3 ⟨r4, gr4, rfl, s42, w⟩
  refine ⟨_, rfl, ?_⟩
  have C_h3 := Lay_SH s42 C_h
  have K_h3_0 := PlanAt_SH s42 K_h_0
  have P_h3 := (congrFun (congrFun s42.2 3) 1).trans P_h
  try simp only [aI_wAL, fI_wAL, aL_wA, aL_wF, aI_wA_ne, aI_wF_ne, fI_wA_ne, fI_wF_ne, fI_wF_nk, aL_wAL_ne, J_sameA, J_sameF, aL_same, Nat.add_left_cancel_iff, Nat.add_eq_left, Nat.left_eq_add, not_false_eq_true, Nat.reduceEqDiff, Nat.reduceAdd, J_add, J_sub, J_mul, J_neg, J_and, J_or, J_xor, J_shl, J_shr, J_div, J_i2b, J_i2l, J_l2i, J_lcm, J_max, J_min, J_nab, J_nao, rdA, rdF, rdL, wA_fold, wF_fold, wL_fold, wC_fold]
  refine ⟨fun c5 => ?_, fun c5 => ?_⟩
  · have t6 : r4 = 0 := ((Jeq gr4 (by decide)).mp c5)
    replace w := w.1 t6
    refine ⟨(ls3 C_h3), _, (lr3_0 C_h3), ?_⟩
    refine ⟨(ls1 C_h3), ?_⟩
    refine Ex.mono w (Nat.le_refl _) ?_
    rintro v8 h9 ⟨r10, gr10, rfl, s41, w⟩
    refine ⟨_, rfl, ?_⟩
    have C_h9 := Lay_SH s41 C_h3
    have K_h9_0 := PlanAt_SH s41 K_h3_0
    have P_h9 := (congrFun (congrFun s41.2 3) 1).trans P_h3
    try simp only [aI_wAL, fI_wAL, aL_wA, aL_wF, aI_wA_ne, aI_wF_ne, fI_wA_ne, fI_wF_ne, fI_wF_nk, aL_wAL_ne, J_sameA, J_sameF, aL_same, Nat.add_left_cancel_iff, Nat.add_eq_left, Nat.left_eq_add, not_false_eq_true, Nat.reduceEqDiff, Nat.reduceAdd, J_add, J_sub, J_mul, J_neg, J_and, J_or, J_xor, J_shl, J_shr, J_div, J_i2b, J_i2l, J_l2i, J_lcm, J_max, J_min, J_nab, J_nao, rdA, rdF, rdL, wA_fold, wF_fold, wL_fold, wC_fold]
    refine ⟨fun c11 => ?_, fun c11 => ?_⟩
    · have t12 : r10 = 0 := ((Jeq gr10 (by decide)).mp c11)
      replace w := w.1 t12
      refine ⟨(ls3 C_h9), _, (lr3_0 C_h9), ?_⟩
      refine ⟨(ls1 C_h9), ?_⟩
      refine Ex.mono w (Nat.le_refl _) ?_
      rintro v14 h15 ⟨r16, gr16, rfl, s40, w⟩
      refine ⟨_, rfl, ?_⟩
      have C_h15 := Lay_SH s40 C_h9
      have K_h15_0 := PlanAt_SH s40 K_h9_0
      have P_h15 := (congrFun (congrFun s40.2 3) 1).trans P_h9
      try simp only [aI_wAL, fI_wAL, aL_wA, aL_wF, aI_wA_ne, aI_wF_ne, fI_wA_ne, fI_wF_ne, fI_wF_nk, aL_wAL_ne, J_sameA, J_sameF, aL_same, Nat.add_left_cancel_iff, Nat.add_eq_left, Nat.left_eq_add, not_false_eq_true, Nat.reduceEqDiff, Nat.reduceAdd, J_add, J_sub, J_mul, J_neg, J_and, J_or, J_xor, J_shl, J_shr, J_div, J_i2b, J_i2l, J_l2i, J_lcm, J_max, J_min, J_nab, J_nao, rdA, rdF, rdL, wA_fold, wF_fold, wL_fold, wC_fold]
      refine ⟨fun c17 => ?_, fun c17 => ?_⟩
      · have t18 : r16 = 0 := ((Jeq gr16 (by decide)).mp c17)
        replace w := w.1 t18
        refine ⟨(ls3 C_h15), _, (lr3_0 C_h15), ?_⟩
        refine ⟨(ls1 C_h15), ?_⟩
        refine Ex.mono w (Nat.le_refl _) ?_
        rintro v20 h21 ⟨r22, gr22, rfl, s39, w⟩
        refine ⟨_, rfl, ?_⟩
        have C_h21 := Lay_SH s39 C_h15
        have K_h21_0 := PlanAt_SH s39 K_h15_0
        have P_h21 := (congrFun (congrFun s39.2 3) 1).trans P_h15
        try simp only [aI_wAL, fI_wAL, aL_wA, aL_wF, aI_wA_ne, aI_wF_ne, fI_wA_ne, fI_wF_ne, fI_wF_nk, aL_wAL_ne, J_sameA, J_sameF, aL_same, Nat.add_left_cancel_iff, Nat.add_eq_left, Nat.left_eq_add, not_false_eq_true, Nat.reduceEqDiff, Nat.reduceAdd, J_add, J_sub, J_mul, J_neg, J_and, J_or, J_xor, J_shl, J_shr, J_div, J_i2b, J_i2l, J_l2i, J_lcm, J_max, J_min, J_nab, J_nao, rdA, rdF, rdL, wA_fold, wF_fold, wL_fold, wC_fold]
        refine ⟨fun c23 => ?_, fun c23 => ?_⟩
        · have t24 : r22 = 0 := ((Jeq gr22 (by decide)).mp c23)
          replace w := w.1 t24
          refine ⟨(ls3 C_h21), _, (lr3_0 C_h21), ?_⟩
          refine ⟨(ls1 C_h21), ?_⟩
          refine Ex.mono w (Nat.le_refl _) ?_
          rintro v26 h27 ⟨r28, gr28, rfl, s38, w⟩
          refine ⟨_, rfl, ?_⟩
          have C_h27 := Lay_SH s38 C_h21
          have K_h27_0 := PlanAt_SH s38 K_h21_0
          have P_h27 := (congrFun (congrFun s38.2 3) 1).trans P_h21
          try simp only [aI_wAL, fI_wAL, aL_wA, aL_wF, aI_wA_ne, aI_wF_ne, fI_wA_ne, fI_wF_ne, fI_wF_nk, aL_wAL_ne, J_sameA, J_sameF, aL_same, Nat.add_left_cancel_iff, Nat.add_eq_left, Nat.left_eq_add, not_false_eq_true, Nat.reduceEqDiff, Nat.reduceAdd, J_add, J_sub, J_mul, J_neg, J_and, J_or, J_xor, J_shl, J_shr, J_div, J_i2b, J_i2l, J_l2i, J_lcm, J_max, J_min, J_nab, J_nao, rdA, rdF, rdL, wA_fold, wF_fold, wL_fold, wC_fold]
          refine ⟨fun c29 => ?_, fun c29 => ?_⟩
          · have t30 : r28 = 0 := ((Jeq gr28 (by decide)).mp c29)
            replace w := w.1 t30
            refine ⟨(ls3 C_h27), _, (lr3_0 C_h27), ?_⟩
            refine ⟨(ls1 C_h27), ?_⟩
            refine Ex.mono w (Nat.le_refl _) ?_
            rintro v32 h33 ⟨r34, gr34, rfl, s37, w⟩
            refine ⟨_, rfl, ?_⟩
            have C_h33 := Lay_SH s37 C_h27
            have K_h33_0 := PlanAt_SH s37 K_h27_0
            have P_h33 := (congrFun (congrFun s37.2 3) 1).trans P_h27
            try simp only [aI_wAL, fI_wAL, aL_wA, aL_wF, aI_wA_ne, aI_wF_ne, fI_wA_ne, fI_wF_ne, fI_wF_nk, aL_wAL_ne, J_sameA, J_sameF, aL_same, Nat.add_left_cancel_iff, Nat.add_eq_left, Nat.left_eq_add, not_false_eq_true, Nat.reduceEqDiff, Nat.reduceAdd, J_add, J_sub, J_mul, J_neg, J_and, J_or, J_xor, J_shl, J_shr, J_div, J_i2b, J_i2l, J_l2i, J_lcm, J_max, J_min, J_nab, J_nao, rdA, rdF, rdL, wA_fold, wF_fold, wL_fold, wC_fold]
            refine ⟨fun c35 => ?_, fun c35 => ?_⟩
            · have t36 : r34 = 0 := ((Jeq gr34 (by decide)).mp c35)
              replace w := w.1 t36
              exact w
            · have t36 : ¬ r34 = 0 := (fun e => c35 ((Jeq gr34 (by decide)).mpr e))
              replace w := w.2 t36
              exact w
          · have t30 : ¬ r28 = 0 := (fun e => c29 ((Jeq gr28 (by decide)).mpr e))
            replace w := w.2 t30
            exact w
        · have t24 : ¬ r22 = 0 := (fun e => c23 ((Jeq gr22 (by decide)).mpr e))
          replace w := w.2 t24
          exact w
      · have t18 : ¬ r16 = 0 := (fun e => c17 ((Jeq gr16 (by decide)).mpr e))
        replace w := w.2 t18
        exact w
    · have t12 : ¬ r10 = 0 := (fun e => c11 ((Jeq gr10 (by decide)).mpr e))
      replace w := w.2 t12
      exact w
  · have t6 : ¬ r4 = 0 := (fun e => c5 ((Jeq gr4 (by decide)).mpr e))
    replace w := w.2 t6
    exact w
theorem m30 {X : Cst} {d pl : Nat} {L j f : Int} {tp : Int → Int} {h : AH} {Q : Post} (C : Lay h) (K : PlanAt h pl) (P : hR h 3 1 = some pl) (hd : 2 ≤ d) (hX : X.2 = X2) (T : TkC h tp L j f) (k : Q (some (.int (J (kwN tp L j)))) h) : Ex X PG d 30 0 [some (.ref 3)] [] h Q := by
  obtain ⟨d, rfl⟩ : ∃ e, d = e + 1 := ⟨d - 1, by omega⟩
  unfold kwN at k
  refine r30_0 C K P ?_
  refine m31s (s := 0) C (by omega) hX T (by decide) (fun e => ⟨1, by omega, rfl, SH.rf, fun z => absurd z (by decide), fun _ => ?_⟩) (fun e => ⟨0, by omega, rfl, SH.rf, fun _ => ?_, fun z => absurd rfl z⟩)
  · rw [pI_pos e] at k; exact k
  rw [pI_neg e] at k
  refine m31s (s := 1) C (by omega) hX T (by decide) (fun e => ⟨1, by omega, rfl, SH.rf, fun z => absurd z (by decide), fun _ => ?_⟩) (fun e => ⟨0, by omega, rfl, SH.rf, fun _ => ?_, fun z => absurd rfl z⟩)
  · rw [pI_pos e] at k; exact k
  rw [pI_neg e] at k
  refine m31s (s := 2) C (by omega) hX T (by decide) (fun e => ⟨1, by omega, rfl, SH.rf, fun z => absurd z (by decide), fun _ => ?_⟩) (fun e => ⟨0, by omega, rfl, SH.rf, fun _ => ?_, fun z => absurd rfl z⟩)
  · rw [pI_pos e] at k; exact k
  rw [pI_neg e] at k
  refine m31s (s := 3) C (by omega) hX T (by decide) (fun e => ⟨1, by omega, rfl, SH.rf, fun z => absurd z (by decide), fun _ => ?_⟩) (fun e => ⟨0, by omega, rfl, SH.rf, fun _ => ?_, fun z => absurd rfl z⟩)
  · rw [pI_pos e] at k; exact k
  rw [pI_neg e] at k
  refine m31s (s := 4) C (by omega) hX T (by decide) (fun e => ⟨1, by omega, rfl, SH.rf, fun z => absurd z (by decide), fun _ => ?_⟩) (fun e => ⟨0, by omega, rfl, SH.rf, fun _ => ?_, fun z => absurd rfl z⟩)
  · rw [pI_pos e] at k; exact k
  rw [pI_neg e] at k
  refine m31s (s := 5) C (by omega) hX T (by decide) (fun e => ⟨1, by omega, rfl, SH.rf, fun z => absurd z (by decide), fun _ => ?_⟩) (fun e => ⟨0, by omega, rfl, SH.rf, fun _ => ?_, fun z => absurd rfl z⟩)
  · rw [pI_pos e] at k; exact k
  rw [pI_neg e] at k
  exact k
/-- a clause out of its place -/
def oopP (R : Int → Int) (n x : Int) : Prop := n = 40 ∨ ¬ (x = 0 ↔ n = 0) ∨ ((x = 2 ∨ x = 3) ∧ R 1 = 14) ∨ (x = 4 ∧ 0 ≤ R 4) ∨ (x = 5 ∧ R 2 = 4)
-- OutwardDoors$CastleReader.isOutOfPlace(I)Z at 0
set_option maxRecDepth 20000 in
set_option maxHeartbeats 4000000 in
theorem r33_0 {X : Cst} {d : Nat} {x1 : Int} {pl : Nat} {h : AH} {Q : Post} (C_h : Lay h) (K_h_0 : PlanAt h pl) (P_h : hR h 3 1 = some pl) (hd : 1 ≤ d)
  (w : ((40 ≤ fI h 3 2 → Q (some (.int (J 1))) h) ∧ (¬ 40 ≤ fI h 3 2 → (-2147483648 ≤ x1 ∧ x1 < 2147483648) ∧ ((¬ x1 = 0 → ((¬ fI h 3 2 = 0 → ((x1 = 2 → ((fI h pl 1 < 14 → Q (some (.int (J 0))) h) ∧ (¬ fI h pl 1 < 14 → Q (some (.int (J 1))) h))) ∧ (¬ x1 = 2 → ((¬ x1 = 3 → ((¬ x1 = 4 → ((¬ x1 = 5 → Q (some (.int (J 0))) h) ∧ (x1 = 5 → ((fI h pl 2 < 4 → Q (some (.int (J 0))) h) ∧ (¬ fI h pl 2 < 4 → Q (some (.int (J 1))) h))))) ∧ (x1 = 4 → Q (some (.int (J (bI (0 ≤ fI h pl 5))))) h))) ∧ (x1 = 3 → ((fI h pl 1 < 14 → Q (some (.int (J 0))) h) ∧ (¬ fI h pl 1 < 14 → Q (some (.int (J 1))) h))))))) ∧ (fI h 3 2 = 0 → Q (some (.int (J 1))) h))) ∧ (x1 = 0 → ((¬ fI h 3 2 = 0 → Q (some (.int (J 1))) h) ∧ (fI h 3 2 = 0 → ((x1 = 2 → ((fI h pl 1 < 14 → Q (some (.int (J 0))) h) ∧ (¬ fI h pl 1 < 14 → Q (some (.int (J 1))) h))) ∧ (¬ x1 = 2 → ((¬ x1 = 3 → ((¬ x1 = 4 → ((¬ x1 = 5 → Q (some (.int (J 0))) h) ∧ (x1 = 5 → ((fI h pl 2 < 4 → Q (some (.int (J 0))) h) ∧ (¬ fI h pl 2 < 4 → Q (some (.int (J 1))) h))))) ∧ (x1 = 4 → Q (some (.int (J (bI (0 ≤ fI h pl 5))))) h))) ∧ (x1 = 3 → ((fI h pl 1 < 14 → Q (some (.int (J 0))) h) ∧ (¬ fI h pl 1 < 14 → Q (some (.int (J 1))) h))))))))))))) :
    Ex X PG (d + 1) 33 0 [some (.ref 3), some (.int (J x1))] [] h Q := by
  refine wpx_ok (cut := []) 34 d 33 0 _ _ _ _ ?_
  show hs h 3 = (0, 0) ∧ (((J 40) ≤ (hF h 3 2) → (J 1 = J 0 ∨ J 1 = J 1) ∧ Q (some (.int (J 1))) h) ∧ (¬ ((J 40) ≤ (hF h 3 2)) → ((¬ (J x1) = (J 0) → hs h 3 = (0, 0) ∧ ((¬ (hF h 3 2) = (J 0) → (((J 0) = (J 0) → (((J x1) = (J 2) → hs h 3 = (0, 0) ∧ ∃ q10, hR h 3 1 = some q10 ∧ hs h q10 = (0, 2) ∧ (((hF h q10 1) < (J 14) → (J 0 = J 0 ∨ J 0 = J 1) ∧ Q (some (.int (J 0))) h) ∧ (¬ ((hF h q10 1) < (J 14)) → (J 1 = J 0 ∨ J 1 = J 1) ∧ Q (some (.int (J 1))) h))) ∧ (¬ ((J x1) = (J 2)) → ((¬ (J x1) = (J 3) → ((¬ (J x1) = (J 4) → ((¬ (J x1) = (J 5) → (J 0 = J 0 ∨ J 0 = J 1) ∧ Q (some (.int (J 0))) h) ∧ (¬ (¬ (J x1) = (J 5)) → hs h 3 = (0, 0) ∧ ∃ q19, hR h 3 1 = some q19 ∧ hs h q19 = (0, 2) ∧ (((hF h q19 2) < (J 4) → (J 0 = J 0 ∨ J 0 = J 1) ∧ Q (some (.int (J 0))) h) ∧ (¬ ((hF h q19 2) < (J 4)) → (J 1 = J 0 ∨ J 1 = J 1) ∧ Q (some (.int (J 1))) h))))) ∧ (¬ (¬ (J x1) = (J 4)) → hs h 3 = (0, 0) ∧ ∃ q22, hR h 3 1 = some q22 ∧ hs h q22 = (0, 2) ∧ Ex X PG d 34 0 [some (.ref q22)] [] h (fun v23 h24 => ∃ r25, v23 = some (.int r25) ∧ (r25 = J 0 ∨ r25 = J 1) ∧ Q (some (.int r25)) h24)))) ∧ (¬ (¬ (J x1) = (J 3)) → hs h 3 = (0, 0) ∧ ∃ q26, hR h 3 1 = some q26 ∧ hs h q26 = (0, 2) ∧ (((hF h q26 1) < (J 14) → (J 0 = J 0 ∨ J 0 = J 1) ∧ Q (some (.int (J 0))) h) ∧ (¬ ((hF h q26 1) < (J 14)) → (J 1 = J 0 ∨ J 1 = J 1) ∧ Q (some (.int (J 1))) h))))))) ∧ (¬ ((J 0) = (J 0)) → (J 1 = J 0 ∨ J 1 = J 1) ∧ Q (some (.int (J 1))) h))) ∧ (¬ (¬ (hF h 3 2) = (J 0)) → (((J 0) = (J 1) → (((J x1) = (J 2) → hs h 3 = (0, 0) ∧ ∃ q31, hR h 3 1 = some q31 ∧ hs h q31 = (0, 2) ∧ (((hF h q31 1) < (J 14) → (J 0 = J 0 ∨ J 0 = J 1) ∧ Q (some (.int (J 0))) h) ∧ (¬ ((hF h q31 1) < (J 14)) → (J 1 = J 0 ∨ J 1 = J 1) ∧ Q (some (.int (J 1))) h))) ∧ (¬ ((J x1) = (J 2)) → ((¬ (J x1) = (J 3) → ((¬ (J x1) = (J 4) → ((¬ (J x1) = (J 5) → (J 0 = J 0 ∨ J 0 = J 1) ∧ Q (some (.int (J 0))) h) ∧ (¬ (¬ (J x1) = (J 5)) → hs h 3 = (0, 0) ∧ ∃ q40, hR h 3 1 = some q40 ∧ hs h q40 = (0, 2) ∧ (((hF h q40 2) < (J 4) → (J 0 = J 0 ∨ J 0 = J 1) ∧ Q (some (.int (J 0))) h) ∧ (¬ ((hF h q40 2) < (J 4)) → (J 1 = J 0 ∨ J 1 = J 1) ∧ Q (some (.int (J 1))) h))))) ∧ (¬ (¬ (J x1) = (J 4)) → hs h 3 = (0, 0) ∧ ∃ q43, hR h 3 1 = some q43 ∧ hs h q43 = (0, 2) ∧ Ex X PG d 34 0 [some (.ref q43)] [] h (fun v44 h45 => ∃ r46, v44 = some (.int r46) ∧ (r46 = J 0 ∨ r46 = J 1) ∧ Q (some (.int r46)) h45)))) ∧ (¬ (¬ (J x1) = (J 3)) → hs h 3 = (0, 0) ∧ ∃ q47, hR h 3 1 = some q47 ∧ hs h q47 = (0, 2) ∧ (((hF h q47 1) < (J 14) → (J 0 = J 0 ∨ J 0 = J 1) ∧ Q (some (.int (J 0))) h) ∧ (¬ ((hF h q47 1) < (J 14)) → (J 1 = J 0 ∨ J 1 = J 1) ∧ Q (some (.int (J 1))) h))))))) ∧ (¬ ((J 0) = (J 1)) → (J 1 = J 0 ∨ J 1 = J 1) ∧ Q (some (.int (J 1))) h))))) ∧ (¬ (¬ (J x1) = (J 0)) → hs h 3 = (0, 0) ∧ ((¬ (hF h 3 2) = (J 0) → (((J 1) = (J 0) → (((J x1) = (J 2) → hs h 3 = (0, 0) ∧ ∃ q54, hR h 3 1 = some q54 ∧ hs h q54 = (0, 2) ∧ (((hF h q54 1) < (J 14) → (J 0 = J 0 ∨ J 0 = J 1) ∧ Q (some (.int (J 0))) h) ∧ (¬ ((hF h q54 1) < (J 14)) → (J 1 = J 0 ∨ J 1 = J 1) ∧ Q (some (.int (J 1))) h))) ∧ (¬ ((J x1) = (J 2)) → ((¬ (J x1) = (J 3) → ((¬ (J x1) = (J 4) → ((¬ (J x1) = (J 5) → (J 0 = J 0 ∨ J 0 = J 1) ∧ Q (some (.int (J 0))) h) ∧ (¬ (¬ (J x1) = (J 5)) → hs h 3 = (0, 0) ∧ ∃ q63, hR h 3 1 = some q63 ∧ hs h q63 = (0, 2) ∧ (((hF h q63 2) < (J 4) → (J 0 = J 0 ∨ J 0 = J 1) ∧ Q (some (.int (J 0))) h) ∧ (¬ ((hF h q63 2) < (J 4)) → (J 1 = J 0 ∨ J 1 = J 1) ∧ Q (some (.int (J 1))) h))))) ∧ (¬ (¬ (J x1) = (J 4)) → hs h 3 = (0, 0) ∧ ∃ q66, hR h 3 1 = some q66 ∧ hs h q66 = (0, 2) ∧ Ex X PG d 34 0 [some (.ref q66)] [] h (fun v67 h68 => ∃ r69, v67 = some (.int r69) ∧ (r69 = J 0 ∨ r69 = J 1) ∧ Q (some (.int r69)) h68)))) ∧ (¬ (¬ (J x1) = (J 3)) → hs h 3 = (0, 0) ∧ ∃ q70, hR h 3 1 = some q70 ∧ hs h q70 = (0, 2) ∧ (((hF h q70 1) < (J 14) → (J 0 = J 0 ∨ J 0 = J 1) ∧ Q (some (.int (J 0))) h) ∧ (¬ ((hF h q70 1) < (J 14)) → (J 1 = J 0 ∨ J 1 = J 1) ∧ Q (some (.int (J 1))) h))))))) ∧ (¬ ((J 1) = (J 0)) → (J 1 = J 0 ∨ J 1 = J 1) ∧ Q (some (.int (J 1))) h))) ∧ (¬ (¬ (hF h 3 2) = (J 0)) → (((J 1) = (J 1) → (((J x1) = (J 2) → hs h 3 = (0, 0) ∧ ∃ q75, hR h 3 1 = some q75 ∧ hs h q75 = (0, 2) ∧ (((hF h q75 1) < (J 14) → (J 0 = J 0 ∨ J 0 = J 1) ∧ Q (some (.int (J 0))) h) ∧ (¬ ((hF h q75 1) < (J 14)) → (J 1 = J 0 ∨ J 1 = J 1) ∧ Q (some (.int (J 1))) h))) ∧ (¬ ((J x1) = (J 2)) → ((¬ (J x1) = (J 3) → ((¬ (J x1) = (J 4) → ((¬ (J x1) = (J 5) → (J 0 = J 0 ∨ J 0 = J 1) ∧ Q (some (.int (J 0))) h) ∧ (¬ (¬ (J x1) = (J 5)) → hs h 3 = (0, 0) ∧ ∃ q84, hR h 3 1 = some q84 ∧ hs h q84 = (0, 2) ∧ (((hF h q84 2) < (J 4) → (J 0 = J 0 ∨ J 0 = J 1) ∧ Q (some (.int (J 0))) h) ∧ (¬ ((hF h q84 2) < (J 4)) → (J 1 = J 0 ∨ J 1 = J 1) ∧ Q (some (.int (J 1))) h))))) ∧ (¬ (¬ (J x1) = (J 4)) → hs h 3 = (0, 0) ∧ ∃ q87, hR h 3 1 = some q87 ∧ hs h q87 = (0, 2) ∧ Ex X PG d 34 0 [some (.ref q87)] [] h (fun v88 h89 => ∃ r90, v88 = some (.int r90) ∧ (r90 = J 0 ∨ r90 = J 1) ∧ Q (some (.int r90)) h89)))) ∧ (¬ (¬ (J x1) = (J 3)) → hs h 3 = (0, 0) ∧ ∃ q91, hR h 3 1 = some q91 ∧ hs h q91 = (0, 2) ∧ (((hF h q91 1) < (J 14) → (J 0 = J 0 ∨ J 0 = J 1) ∧ Q (some (.int (J 0))) h) ∧ (¬ ((hF h q91 1) < (J 14)) → (J 1 = J 0 ∨ J 1 = J 1) ∧ Q (some (.int (J 1))) h))))))) ∧ (¬ ((J 1) = (J 1)) → (J 1 = J 0 ∨ J 1 = J 1) ∧ Q (some (.int (J 1))) h))))))))
  try simp only [aI_wAL, fI_wAL, aL_wA, aL_wF, aI_wA_ne, aI_wF_ne, fI_wA_ne, fI_wF_ne, fI_wF_nk, aL_wAL_ne, J_sameA, J_sameF, aL_same, Nat.add_left_cancel_iff, Nat.add_eq_left, Nat.left_eq_add, not_false_eq_true, Nat.reduceEqDiff, Nat.reduceAdd, J_add, J_sub, J_mul, J_neg, J_and, J_or, J_xor, J_shl, J_shr, J_div, J_i2b, J_i2l, J_l2i, J_lcm, J_max, J_min, J_nab, J_nao, rdA, rdF, rdL, wA_fold, wF_fold, wL_fold, wC_fold]
  refine ⟨(ls3 C_h), ?_⟩
  refine ⟨fun c1 => ?_, fun c1 => ?_⟩
  · have t2 : 40 ≤ fI h 3 2 := ((Jle (by decide) (rg_toInt _)).mp c1)
    replace w := w.1 t2
    exact ⟨(Or.inr (by trivial)), w⟩
  · have t2 : ¬ 40 ≤ fI h 3 2 := (fun e => c1 ((Jle (by decide) (rg_toInt _)).mpr e))
    replace w := w.2 t2
    obtain ⟨k5, w⟩ := w
    refine ⟨fun c3 => ?_, fun c3 => ?_⟩
    · have t4 : ¬ x1 = 0 := (fun e => c3 ((Jeq k5 (by decide)).mpr e))
      replace w := w.1 t4
      refine ⟨(ls3 C_h), ?_⟩
      refine ⟨fun c6 => ?_, fun c6 => ?_⟩
      · have t7 : ¬ fI h 3 2 = 0 := (fun e => c6 ((Jeq (rg_toInt _) (by decide)).mpr e))
        replace w := w.1 t7
        refine ⟨fun _ => ?_, fun c => absurd (by decide) c⟩
        refine ⟨fun c8 => ?_, fun c8 => ?_⟩
        · have t9 : x1 = 2 := ((Jeq k5 (by decide)).mp c8)
          replace w := w.1 t9
          refine ⟨(ls3 C_h), _, P_h, ?_⟩
          refine ⟨(plan_0 K_h_0), ?_⟩
          refine ⟨fun c11 => ?_, fun c11 => ?_⟩
          · have t12 : fI h pl 1 < 14 := ((Jlt (rg_toInt _) (by decide)).mp c11)
            replace w := w.1 t12
            exact ⟨(Or.inl (by trivial)), w⟩
          · have t12 : ¬ fI h pl 1 < 14 := (fun e => c11 ((Jlt (rg_toInt _) (by decide)).mpr e))
            replace w := w.2 t12
            exact ⟨(Or.inr (by trivial)), w⟩
        · have t9 : ¬ x1 = 2 := (fun e => c8 ((Jeq k5 (by decide)).mpr e))
          replace w := w.2 t9
          refine ⟨fun c13 => ?_, fun c13 => ?_⟩
          · have t14 : ¬ x1 = 3 := (fun e => c13 ((Jeq k5 (by decide)).mpr e))
            replace w := w.1 t14
            refine ⟨fun c15 => ?_, fun c15 => ?_⟩
            · have t16 : ¬ x1 = 4 := (fun e => c15 ((Jeq k5 (by decide)).mpr e))
              replace w := w.1 t16
              refine ⟨fun c17 => ?_, fun c17 => ?_⟩
              · have t18 : ¬ x1 = 5 := (fun e => c17 ((Jeq k5 (by decide)).mpr e))
                replace w := w.1 t18
                exact ⟨(Or.inl (by trivial)), w⟩
              · have t18 : x1 = 5 := ((Jeq k5 (by decide)).mp (Classical.byContradiction c17))
                replace w := w.2 t18
                refine ⟨(ls3 C_h), _, P_h, ?_⟩
                refine ⟨(plan_0 K_h_0), ?_⟩
                refine ⟨fun c20 => ?_, fun c20 => ?_⟩
                · have t21 : fI h pl 2 < 4 := ((Jlt (rg_toInt _) (by decide)).mp c20)
                  replace w := w.1 t21
                  exact ⟨(Or.inl (by trivial)), w⟩
                · have t21 : ¬ fI h pl 2 < 4 := (fun e => c20 ((Jlt (rg_toInt _) (by decide)).mpr e))
                  replace w := w.2 t21
                  exact ⟨(Or.inr (by trivial)), w⟩
            · have t16 : x1 = 4 := ((Jeq k5 (by decide)).mp (Classical.byContradiction c15))
              replace w := w.2 t16
              refine ⟨(ls3 C_h), _, P_h, ?_⟩
              refine ⟨(plan_0 K_h_0), ?_⟩
              refine m34 (h := h) (a := pl) C_h K_h_0 (by omega)  ?_
              refine ⟨_, rfl, ?_⟩
              try simp only [aI_wAL, fI_wAL, aL_wA, aL_wF, aI_wA_ne, aI_wF_ne, fI_wA_ne, fI_wF_ne, fI_wF_nk, aL_wAL_ne, J_sameA, J_sameF, aL_same, Nat.add_left_cancel_iff, Nat.add_eq_left, Nat.left_eq_add, not_false_eq_true, Nat.reduceEqDiff, Nat.reduceAdd, J_add, J_sub, J_mul, J_neg, J_and, J_or, J_xor, J_shl, J_shr, J_div, J_i2b, J_i2l, J_l2i, J_lcm, J_max, J_min, J_nab, J_nao, rdA, rdF, rdL, wA_fold, wF_fold, wL_fold, wC_fold]
              exact ⟨(bI_01 _), w⟩
          · have t14 : x1 = 3 := ((Jeq k5 (by decide)).mp (Classical.byContradiction c13))
            replace w := w.2 t14
            refine ⟨(ls3 C_h), _, P_h, ?_⟩
            refine ⟨(plan_0 K_h_0), ?_⟩
            refine ⟨fun c27 => ?_, fun c27 => ?_⟩
            · have t28 : fI h pl 1 < 14 := ((Jlt (rg_toInt _) (by decide)).mp c27)
              replace w := w.1 t28
              exact ⟨(Or.inl (by trivial)), w⟩
            · have t28 : ¬ fI h pl 1 < 14 := (fun e => c27 ((Jlt (rg_toInt _) (by decide)).mpr e))
              replace w := w.2 t28
              exact ⟨(Or.inr (by trivial)), w⟩
      · have t7 : fI h 3 2 = 0 := ((Jeq (rg_toInt _) (by decide)).mp (Classical.byContradiction c6))
        replace w := w.2 t7
        refine ⟨fun c => absurd c (by decide), fun _ => ?_⟩
        exact ⟨(Or.inr (by trivial)), w⟩
    · have t4 : x1 = 0 := ((Jeq k5 (by decide)).mp (Classical.byContradiction c3))
      replace w := w.2 t4
      refine ⟨(ls3 C_h), ?_⟩
      refine ⟨fun c50 => ?_, fun c50 => ?_⟩
      · have t51 : ¬ fI h 3 2 = 0 := (fun e => c50 ((Jeq (rg_toInt _) (by decide)).mpr e))
        replace w := w.1 t51
        refine ⟨fun c => absurd c (by decide), fun _ => ?_⟩
        exact ⟨(Or.inr (by trivial)), w⟩
      · have t51 : fI h 3 2 = 0 := ((Jeq (rg_toInt _) (by decide)).mp (Classical.byContradiction c50))
        replace w := w.2 t51
        refine ⟨fun _ => ?_, fun c => absurd (by decide) c⟩
        refine ⟨fun c73 => ?_, fun c73 => ?_⟩
        · have t74 : x1 = 2 := ((Jeq k5 (by decide)).mp c73)
          replace w := w.1 t74
          refine ⟨(ls3 C_h), _, P_h, ?_⟩
          refine ⟨(plan_0 K_h_0), ?_⟩
          refine ⟨fun c76 => ?_, fun c76 => ?_⟩
          · have t77 : fI h pl 1 < 14 := ((Jlt (rg_toInt _) (by decide)).mp c76)
            replace w := w.1 t77
            exact ⟨(Or.inl (by trivial)), w⟩
          · have t77 : ¬ fI h pl 1 < 14 := (fun e => c76 ((Jlt (rg_toInt _) (by decide)).mpr e))
            replace w := w.2 t77
            exact ⟨(Or.inr (by trivial)), w⟩
        · have t74 : ¬ x1 = 2 := (fun e => c73 ((Jeq k5 (by decide)).mpr e))
          replace w := w.2 t74
          refine ⟨fun c78 => ?_, fun c78 => ?_⟩
          · have t79 : ¬ x1 = 3 := (fun e => c78 ((Jeq k5 (by decide)).mpr e))
            replace w := w.1 t79
            refine ⟨fun c80 => ?_, fun c80 => ?_⟩
            · have t81 : ¬ x1 = 4 := (fun e => c80 ((Jeq k5 (by decide)).mpr e))
              replace w := w.1 t81
              refine ⟨fun c82 => ?_, fun c82 => ?_⟩
              · have t83 : ¬ x1 = 5 := (fun e => c82 ((Jeq k5 (by decide)).mpr e))
                replace w := w.1 t83
                exact ⟨(Or.inl (by trivial)), w⟩
              · have t83 : x1 = 5 := ((Jeq k5 (by decide)).mp (Classical.byContradiction c82))
                replace w := w.2 t83
                refine ⟨(ls3 C_h), _, P_h, ?_⟩
                refine ⟨(plan_0 K_h_0), ?_⟩
                refine ⟨fun c85 => ?_, fun c85 => ?_⟩
                · have t86 : fI h pl 2 < 4 := ((Jlt (rg_toInt _) (by decide)).mp c85)
                  replace w := w.1 t86
                  exact ⟨(Or.inl (by trivial)), w⟩
                · have t86 : ¬ fI h pl 2 < 4 := (fun e => c85 ((Jlt (rg_toInt _) (by decide)).mpr e))
                  replace w := w.2 t86
                  exact ⟨(Or.inr (by trivial)), w⟩
            · have t81 : x1 = 4 := ((Jeq k5 (by decide)).mp (Classical.byContradiction c80))
              replace w := w.2 t81
              refine ⟨(ls3 C_h), _, P_h, ?_⟩
              refine ⟨(plan_0 K_h_0), ?_⟩
              refine m34 (h := h) (a := pl) C_h K_h_0 (by omega)  ?_
              refine ⟨_, rfl, ?_⟩
              try simp only [aI_wAL, fI_wAL, aL_wA, aL_wF, aI_wA_ne, aI_wF_ne, fI_wA_ne, fI_wF_ne, fI_wF_nk, aL_wAL_ne, J_sameA, J_sameF, aL_same, Nat.add_left_cancel_iff, Nat.add_eq_left, Nat.left_eq_add, not_false_eq_true, Nat.reduceEqDiff, Nat.reduceAdd, J_add, J_sub, J_mul, J_neg, J_and, J_or, J_xor, J_shl, J_shr, J_div, J_i2b, J_i2l, J_l2i, J_lcm, J_max, J_min, J_nab, J_nao, rdA, rdF, rdL, wA_fold, wF_fold, wL_fold, wC_fold]
              exact ⟨(bI_01 _), w⟩
          · have t79 : x1 = 3 := ((Jeq k5 (by decide)).mp (Classical.byContradiction c78))
            replace w := w.2 t79
            refine ⟨(ls3 C_h), _, P_h, ?_⟩
            refine ⟨(plan_0 K_h_0), ?_⟩
            refine ⟨fun c92 => ?_, fun c92 => ?_⟩
            · have t93 : fI h pl 1 < 14 := ((Jlt (rg_toInt _) (by decide)).mp c92)
              replace w := w.1 t93
              exact ⟨(Or.inl (by trivial)), w⟩
            · have t93 : ¬ fI h pl 1 < 14 := (fun e => c92 ((Jlt (rg_toInt _) (by decide)).mpr e))
              replace w := w.2 t93
              exact ⟨(Or.inr (by trivial)), w⟩
theorem m33 {X : Cst} {d pl : Nat} {n x : Int} {R : Int → Int} {h : AH} {Q : Post} (C : Lay h) (K : PlanAt h pl) (P : hR h 3 1 = some pl) (hd : 2 ≤ d) (D : PlanRd h pl R) (I : CI n R) (en : fI h 3 2 = n) (hx : 0 ≤ x ∧ x ≤ 5) (k1 : oopP R n x → Q (some (.int (J 1))) h) (k0 : ¬ oopP R n x → Q (some (.int (J 0))) h) : Ex X PG d 33 0 [some (.ref 3), some (.int (J x))] [] h Q := by
  obtain ⟨d, rfl⟩ : ∃ e, d = e + 1 := ⟨d - 1, by omega⟩
  have I0 := I.1
  have I1 := I.2.1
  have I2 := I.2.2.1
  unfold oopP at k1 k0
  refine r33_0 C K P (by omega) ?_
  rw [en, D.1.2.1, D.1.2.2.1, D.1.2.2.2.2]
  have ni : ∀ q, (q = 0 ∧ ¬ 0 ≤ R 5) ∨ (q = 1 ∧ 0 ≤ R 5) → x = 4 → ¬ n = 40 → ¬ n = 0 → Q (some (.int (J q))) h := by
    intro q hq h4 h40 h0
    rcases hq with hq | hq
    · rw [hq.1]; exact k0 (by omega)
    · rw [hq.1]; exact k1 (by omega)
  have nb : x = 4 → ¬ n = 40 → ¬ n = 0 → Q (some (.int (J (bI (0 ≤ R 5))))) h := by
    intro h4 h40 h0
    refine ni _ ?_ h4 h40 h0
    by_cases c : 0 ≤ R 5
    · exact Or.inr ⟨bI_pos c, c⟩
    · exact Or.inl ⟨bI_neg c, c⟩
  refine ⟨fun c => k1 (by omega), fun c => ⟨by omega, fun c2 => ⟨fun c3 => ⟨fun c4 => ⟨fun c5 => k0 (by omega), fun c5 => k1 (by omega)⟩, fun c4 => ⟨fun c5 => ⟨fun c6 => ⟨fun c7 => k0 (by omega), fun c7 => ⟨fun c8 => k0 (by omega), fun c8 => k1 (by omega)⟩⟩, fun c6 => nb (by omega) (by omega) (by omega)⟩, fun c5 => ⟨fun c6 => k0 (by omega), fun c6 => k1 (by omega)⟩⟩⟩, fun c3 => k1 (by omega)⟩, fun c2 => ⟨fun c3 => k1 (by omega), fun c3 => ?_⟩⟩⟩
  refine ⟨fun c4 => ?_, fun c4 => ⟨fun c5 => ⟨fun c6 => ⟨fun c7 => k0 (by omega), fun c7 => ?_⟩, fun c6 => ?_⟩, fun c5 => ?_⟩⟩ <;> omega
def TCc (a c k : Nat) : Prop := TTf c k ∨ (a ≤ c ∧ c ≤ a + 10) ∨ (c = 3 ∧ k = 2)
theorem TCp_c {a c k : Nat} (z : TCp a c k) : TCc a c k := by unfold TCp at z; unfold TCc; rcases z with z | z; exact Or.inl z; exact Or.inr (Or.inl z)
def CQc (h : AH) (a : Nat) (tp : Int → Int) (L n : Int) (r : RS) (Q : Post) : Prop := (r.1 = 0 → ∀ h', Fr (TCc a) h h' → TkC h' tp L r.2.1 0 → PlanRd h' a r.2.2 → fI h' 3 2 = n + 1 → Q none h') ∧ (¬ r.1 = 0 → ∀ h' j', Fr (TCc a) h h' → TkC h' tp L j' r.1 → Q none h')
