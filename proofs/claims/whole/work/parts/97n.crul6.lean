/-! RULES as the class reads them: read(), rule(). -/
def U57 (c k : Nat) : Prop := c = 46 ∧ k = 1
set_option maxRecDepth 20000 in
theorem U57_n (c k : Nat) (u : U57 c k) : LRt.lookup (c * 64 + k) = none := by
  obtain ⟨rfl, rfl⟩ := u; rfl
theorem RuleAt_46 {h : AH} {ru : Nat} {x : Option Nat} (K : RuleAt h ru) (n : ¬ ru = 46) : RuleAt (wR h 46 1 x) ru := by
  obtain ⟨k1, k2, k3, k4, k5, k6, k7, k8, k9⟩ := K
  exact ⟨k1, k2, k3, k4, k5, by rw [hR_wR_ne (by omega)]; exact k6, by rw [hR_wR_ne (by omega)]; exact k7, by rw [hR_wR_ne (by omega)]; exact k8, by rw [hR_wR_ne (by omega)]; exact k9⟩
theorem v58_0 {X : Cst} {d : Nat} {a : Nat} {a1 : Nat} {h : AH} {Q : Post}
  (w : hs h a = (0, 5) ∧ hs (wR h a 1 (some a1)) a = (0, 5) ∧ ∃ q1, hR (wR h a 1 (some a1)) a 1 = some q1 ∧ hs (wR h a 1 (some a1)) q1 = (0, 4) ∧ Ex X PG d 8 0 [some (.ref q1)] [] (wR h a 1 (some a1)) (fun v2 h3 => v2 = none ∧
      hs h3 a = (0, 5) ∧ hs (wI h3 a 2 0) a = (0, 5) ∧ ∃ q4, hR (wI h3 a 2 0) a 0 = some q4 ∧ hs (wI h3 a 2 0) q4 = (0, 8) ∧ Ex X PG d 23 0 [some (.ref q4)] [] (wI h3 a 2 0) (fun v5 h6 => v5 = none ∧
        Ex X PG (d + 1) 58 28 [some (.ref a), some (.ref a1), some (.int 1), some (.int 0), none] [] h6 Q))) :
    Ex X PG (d + 1) 58 0 [some (.ref a), some (.ref a1), none, none, none] [] h Q := wpx_ok (cut := [28]) 16 d 58 0 _ _ _ _ w
-- OutwardDoors$Rule.clear()V at 0
set_option maxRecDepth 20000 in
set_option maxHeartbeats 4000000 in
theorem r8_0 {X : Cst} {d : Nat} {a : Nat} {h : AH} {Q : Post} (C_h : Lay h) (K_h_0 : RuleAt h a)
  (w : Q none (wF (wF h a 4 0) a 5 0)) :
    Ex X PG (d + 1) 8 0 [some (.ref a)] [] h Q := by
  refine wpx_ok (cut := []) 7 d 8 0 _ _ _ _ ?_
  show hs h a = (0, 4) ∧ hs (wG h a 4 (J 0)) a = (0, 4) ∧ Q none (wG (wG h a 4 (J 0)) a 5 (J 0))
  try simp only [aI_wAL, fI_wAL, aL_wA, aL_wF, aI_wA_ne, aI_wF_ne, fI_wA_ne, fI_wF_ne, fI_wF_nk, aL_wAL_ne, J_sameA, J_sameF, aL_same, Nat.add_left_cancel_iff, Nat.add_eq_left, Nat.left_eq_add, not_false_eq_true, Nat.reduceEqDiff, Nat.reduceAdd, J_add, J_sub, J_mul, J_neg, J_and, J_or, J_xor, J_shl, J_shr, J_div, J_i2b, J_i2l, J_l2i, J_lcm, J_max, J_min, J_nab, J_nao, rdA, rdF, rdL, wA_fold, wF_fold, wL_fold, wC_fold]
  refine ⟨(rule_0 K_h_0), ?_⟩
  refine ⟨(rule_0 K_h_0), ?_⟩
  exact w
theorem m58 {X : Cst} {d ru : Nat} {L : Int} {tp : Int → Int} {r : RT} {h : AH} {Q : Post} (C : Lay h) (h281 : 281 ≤ hn h) (K : RuleAt h ru) (hX : X.2 = X2) (B : BT tp) (hr : 16 ≤ ru ∧ ru + 4 < 46) (hd : 29 ≤ d) (et : aI h 2 = tp) (eL : fI h 1 1 = L) (hL : 0 ≤ L ∧ L ≤ 400) (er : r = rdR tp L 13 (skp tp L 0) 0 [] []) (k : CQt (wR h 46 1 (some ru)) ru r Q) : Ex X PG d 58 0 [some (.ref 46), some (.ref ru), none, none, none] [] h Q := by
  obtain ⟨d, rfl⟩ : ∃ e, d = e + 1 := ⟨d - 1, by omega⟩
  have X1 : Gx (fun _ _ => False) U57 h (wR h 46 1 (some ru)) := Gx.wR ⟨rfl, rfl⟩
  have C1 := X1.C C h281 U57_n
  have K1 : RuleAt (wR h 46 1 (some ru)) ru := RuleAt_46 K (by omega)
  have P1 : hR (wR h 46 1 (some ru)) 46 1 = some ru := hR_wR_eq
  have et1 : aI (wR h 46 1 (some ru)) 2 = tp := et
  have eL1 : fI (wR h 46 1 (some ru)) 1 1 = L := eL
  refine v58_0 ⟨ls46 C, ls46 C1, ru, P1, K1.1, ?_⟩
  generalize wR h 46 1 (some ru) = h1 at *
  obtain ⟨d, rfl⟩ : ∃ e, d = e + 1 := ⟨d - 1, by omega⟩
  refine r8_0 C1 K1 ?_
  have F2 : Fr (TUs ru) h1 (wF (wF h1 ru 4 0) ru 5 0) := (Fr.rf.wF (by unfold TUs TAd TEn; omega)).wF (by unfold TUs TAd TEn; omega)
  have F3 : Fr (TUs ru) h1 (wF (wF (wF h1 ru 4 0) ru 5 0) 46 2 0) := F2.wF (by unfold TUs; omega)
  have ew : wI (wF (wF h1 ru 4 0) ru 5 0) 46 2 0 = wF (wF (wF h1 ru 4 0) ru 5 0) 46 2 0 := wI_wF _ _ _ _
  rw [ew]
  refine ⟨rfl, ls46 (F2.C C1), ls46 (F3.C C1), 1, (F3.C C1).2 46 0 1 (by decide) rfl, ls1 (F3.C C1), ?_⟩
  refine m23 (L := L) (tp := tp) (F3.C C1) (by omega) ?_ ?_ hL (fun h4 F4 T4 => ⟨rfl, ?_⟩)
  · rw [F3.a 2 (by unfold TUs TAd TEn; omega)]; exact et1
  · rw [F3.f 1 1 (by unfold TUs TAd TEn; omega)]; exact eL1
  have F5 : Fr (TUs ru) h1 h4 := F3.tr (F4.mo (fun c k z => by unfold TUs; omega))
  have sb := skp_b (tp := tp) (L := L) (i := 0) (by omega) hL.1
  rw [er] at k
  have z0 : (([] : Cd).length : Int) = 0 := rfl
  have := q58 (X := X) (d := d + 1) C1 K1 P1 hX B hr (by omega) 13 (skp tp L 0) 0 [] [] none h4 rfl F5 ⟨T4, ?_, ?_, fun i i0 i1 => by omega⟩ ⟨?_, fun i i0 i1 => by omega⟩ ⟨by omega, by omega, by omega, by decide, Blt.z⟩ k
  · exact this
  · rw [F4.f 46 2 (by omega), fI_wF_eq (by omega)]
  · rw [F4.f ru 4 (by omega), fI_wF_ne (by omega), fI_wF_nk (by decide), fI_wF_eq (by omega)]; rfl
  · rw [F4.f ru 5 (by omega), fI_wF_ne (by omega), fI_wF_eq (by omega)]; rfl
theorem ClsRule_new {h : AH} {ru : Nat} {c : Cd} {e : En} (B : Blt c e) (G : CoC h ru c) (E : EnC h ru e) : ClsRule h ru (mkR c e) := by
  refine ⟨E.1, fun k k0 k1 => ?_⟩
  have ek := E.2 k k0 k1
  obtain ⟨a, d1, d2, z, e1, e2, e3, e4, -, -⟩ := B.sg k k0 k1
  have lc : c.length = a.length + (d1.length + (d2.length + z.length)) := by rw [e1]; simp only [List.length_append]
  have tb0 : tb (mkR c e) k = a.length := e2
  have te0 : tE (mkR c e) k = a.length + d1.length + d2.length := e4
  exact ⟨ek.1, ek.2, fun j j0 j1 => G.2 j (by omega) (by omega)⟩
def T57 (ru c k : Nat) : Prop := TUs ru c k ∨ (c = 1 ∧ k = 1) ∨ (c = 0 ∧ k = 13)
-- OutwardDoors.rule()I at 0
set_option maxRecDepth 20000 in
set_option maxHeartbeats 4000000 in
theorem r57_0 {X : Cst} {d : Nat} {pl : Nat} {h : AH} {Q : Post} (C_h : Lay h) (K_h_0 : PlanAt h pl) (P_h : hR h 52 0 = some pl)
  (w : ((fI h 0 13 < 6 → (0 ≤ fI h 0 13 ∧ fI h 0 13 < 6) ∧ Ex X PG d 58 0 [some (.ref 46), some (.ref (16 + 5 * Int.toNat (fI h 0 13))), none, none, none] [] h (fun v7 h8 => v7 = none ∧ GRo h8 pl ∧ ((fI h8 1 6 = 0 → Q (some (.int (J (((fI h8 0 13) + 1) - 1)))) (wF (wF h8 1 1 0) 0 13 ((fI h8 0 13) + 1))) ∧ (¬ fI h8 1 6 = 0 → Q (some (.int (J ((-2) - (fI h8 1 6))))) (wF h8 1 1 0))))) ∧ (¬ fI h 0 13 < 6 → Q (some (.int (J (-1)))) h))) :
    Ex X PG (d + 1) 57 0 [some (.ref 0), none] [] h Q := by
  refine wpx_ok (cut := []) 33 d 57 0 _ _ _ _ ?_
  show hs h 0 = (0, 10) ∧ (((hF h 0 13) < (J 6) → hs h 0 = (0, 10) ∧ ∃ q3, hR h 0 2 = some q3 ∧ hs h 0 = (0, 10) ∧ ∃ q4, hR h 0 3 = some q4 ∧ hs h 0 = (0, 10) ∧ 5 ≤ (hs h q4).1 ∧ ix (hF h 0 13) (hs h q4).2 ∧ ∃ q5, hR h q4 (Int32.toNatClampNeg (hF h 0 13)) = some q5 ∧ hs h q3 = (0, 5) ∧ Ex X PG d 58 0 [some (.ref q3), some (.ref q5), none, none, none] [] h (fun v7 h8 => v7 = none ∧ hs h8 0 = (0, 10) ∧ ∃ q9, hR h8 0 0 = some q9 ∧ hs h8 q9 = (0, 8) ∧ hs h8 0 = (0, 10) ∧ ∃ q10, hR h8 0 0 = some q10 ∧ hs h8 q10 = (0, 8) ∧ (((hF h8 q9 6) = (J 0) → hs (wG h8 q10 1 (J 0)) 0 = (0, 10) ∧ hs (wG h8 q10 1 (J 0)) 0 = (0, 10) ∧ hs (wG (wG h8 q10 1 (J 0)) 0 13 ((hF (wG h8 q10 1 (J 0)) 0 13) + (J 1))) 0 = (0, 10) ∧ Q (some (.int ((hF (wG (wG h8 q10 1 (J 0)) 0 13 ((hF (wG h8 q10 1 (J 0)) 0 13) + (J 1))) 0 13) - (J 1)))) (wG (wG h8 q10 1 (J 0)) 0 13 ((hF (wG h8 q10 1 (J 0)) 0 13) + (J 1)))) ∧ (¬ ((hF h8 q9 6) = (J 0)) → Q (some (.int ((J (-2)) - (hF h8 q9 6)))) (wG h8 q10 1 (J 0)))))) ∧ (¬ ((hF h 0 13) < (J 6)) → Q (some (.int (J (-1)))) h))
  try simp only [aI_wAL, fI_wAL, aL_wA, aL_wF, aI_wA_ne, aI_wF_ne, fI_wA_ne, fI_wF_ne, fI_wF_nk, aL_wAL_ne, J_sameA, J_sameF, aL_same, Nat.add_left_cancel_iff, Nat.add_eq_left, Nat.left_eq_add, not_false_eq_true, Nat.reduceEqDiff, Nat.reduceAdd, J_add, J_sub, J_mul, J_neg, J_and, J_or, J_xor, J_shl, J_shr, J_div, J_i2b, J_i2l, J_l2i, J_lcm, J_max, J_min, J_nab, J_nao, rdA, rdF, rdL, wA_fold, wF_fold, wL_fold, wC_fold]
  refine ⟨(ls0 C_h), ?_⟩
  refine ⟨fun c1 => ?_, fun c1 => ?_⟩
  · have t2 : fI h 0 13 < 6 := ((Jlt (rg_toInt _) (by decide)).mp c1)
    replace w := w.1 t2
    refine ⟨(ls0 C_h), _, (lr0_2 C_h), ?_⟩
    refine ⟨(ls0 C_h), _, (lr0_3 C_h), ?_⟩
    refine ⟨(ls0 C_h), ?_⟩
    obtain ⟨k6, w⟩ := w
    have K_h_1 := Lay_e15 C_h k6
    refine ⟨h5o (ls15 C_h) (by decide), ixs (ls15 C_h) k6 (by decide), _, Lay_r15 C_h k6, ?_⟩
    refine ⟨(ls46 C_h), ?_⟩
    refine Ex.mono w (Nat.le_refl _) ?_
    rintro v7 h8 ⟨rfl, ⟨C_h8, K_h8_0, P_h8⟩, w⟩
    refine ⟨rfl, ?_⟩
    try simp only [aI_wAL, fI_wAL, aL_wA, aL_wF, aI_wA_ne, aI_wF_ne, fI_wA_ne, fI_wF_ne, fI_wF_nk, aL_wAL_ne, J_sameA, J_sameF, aL_same, Nat.add_left_cancel_iff, Nat.add_eq_left, Nat.left_eq_add, not_false_eq_true, Nat.reduceEqDiff, Nat.reduceAdd, J_add, J_sub, J_mul, J_neg, J_and, J_or, J_xor, J_shl, J_shr, J_div, J_i2b, J_i2l, J_l2i, J_lcm, J_max, J_min, J_nab, J_nao, rdA, rdF, rdL, wA_fold, wF_fold, wL_fold, wC_fold]
    refine ⟨(ls0 C_h8), _, (lr0_0 C_h8), ?_⟩
    refine ⟨(ls1 C_h8), ?_⟩
    refine ⟨(ls0 C_h8), _, (lr0_0 C_h8), ?_⟩
    refine ⟨(ls1 C_h8), ?_⟩
    refine ⟨fun c11 => ?_, fun c11 => ?_⟩
    · have t12 : fI h8 1 6 = 0 := ((Jeq (rg_toInt _) (by decide)).mp c11)
      replace w := w.1 t12
      refine ⟨(ls0 C_h8), ?_⟩
      refine ⟨(ls0 C_h8), ?_⟩
      refine ⟨(ls0 C_h8), ?_⟩
      exact w
    · have t12 : ¬ fI h8 1 6 = 0 := (fun e => c11 ((Jeq (rg_toInt _) (by decide)).mpr e))
      replace w := w.2 t12
      exact w
  · have t2 : ¬ fI h 0 13 < 6 := (fun e => c1 ((Jlt (rg_toInt _) (by decide)).mpr e))
    replace w := w.2 t2
    exact w
theorem m57 {X : Cst} {d pl : Nat} {n L : Int} {tp : Int → Int} {r : RT} {h : AH} {Q : Post} (C : Lay h) (K : PlanAt h pl) (P : hR h 52 0 = some pl) (h281 : 281 ≤ hn h) (hpl : pl + 10 < hn h) (apl : pl = 4 ∨ pl = 53 ∨ 281 ≤ pl) (hX : X.2 = X2) (hd : 30 ≤ d) (B : BT tp) (en : fI h 0 13 = n) (hn6 : 0 ≤ n ∧ n ≤ 6) (et : aI h 2 = tp) (eL : fI h 1 1 = L) (hL : 0 ≤ L ∧ L ≤ 400) (er : r = rdR tp L 13 (skp tp L 0) 0 [] [])
    (k6 : n = 6 → Q (some (.int (J (-1)))) h)
    (k1 : ¬ n = 6 → r.1 = 0 → ∀ h', Gx (T57 (16 + 5 * n.toNat)) U57 h h' → hn h' = hn h → hz h' = hz h → Lay h' → PlanAt h' pl → hR h' 52 0 = some pl → fI h' 0 13 = n + 1 → fI h' 1 1 = 0 → ClsRule h' (16 + 5 * n.toNat) (mkR r.2.2.2.1 r.2.2.2.2) → Q (some (.int (J n))) h')
    (k0 : ¬ n = 6 → ¬ r.1 = 0 → ∀ h', Gx (T57 (16 + 5 * n.toNat)) U57 h h' → hn h' = hn h → hz h' = hz h → Lay h' → PlanAt h' pl → hR h' 52 0 = some pl → fI h' 0 13 = n → fI h' 1 1 = 0 → Q (some (.int (J (-2 - r.1)))) h') : Ex X PG d 57 0 [some (.ref 0), none] [] h Q := by
  obtain ⟨d, rfl⟩ : ∃ e, d = e + 1 := ⟨d - 1, by omega⟩
  obtain ⟨t, rfl⟩ := Int.eq_ofNat_of_zero_le hn6.1
  rw [Int.toNat_natCast] at k1 k0
  refine r57_0 C K P ?_
  rw [en, Int.toNat_natCast]
  refine ⟨fun lt => ⟨by omega, ?_⟩, fun n6 => k6 (by omega)⟩
  have t6 : ¬ (t : Int) = 6 := by omega
  have Kr : RuleAt h (16 + 5 * t) := by
    have : t = 0 ∨ t = 1 ∨ t = 2 ∨ t = 3 ∨ t = 4 ∨ t = 5 := by omega
    rcases this with rfl | rfl | rfl | rfl | rfl | rfl
    · exact RuleAt_16 C
    · exact RuleAt_21 C
    · exact RuleAt_26 C
    · exact RuleAt_31 C
    · exact RuleAt_36 C
    · exact RuleAt_41 C
  have X1 : Gx (T57 (16 + 5 * t)) U57 h (wR h 46 1 (some (16 + 5 * t))) := Gx.wR ⟨rfl, rfl⟩
  have C1 := X1.C C h281 U57_n
  have K1 : PlanAt (wR h 46 1 (some (16 + 5 * t))) pl := K.gx X1 hpl (fun k z => by unfold U57 at z; omega)
  have P1 : hR (wR h 46 1 (some (16 + 5 * t))) 52 0 = some pl := by rw [hR_wR_ne (by omega)]; exact P
  have e13 : fI (wR h 46 1 (some (16 + 5 * t))) 0 13 = t := en
  have n1 : hn (wR h 46 1 (some (16 + 5 * t))) = hn h := rfl
  have z1 : hz (wR h 46 1 (some (16 + 5 * t))) = hz h := rfl
  have sb := skp_b (tp := tp) (L := L) (i := 0) (by omega) hL.1
  have ok := rdR_ok (tp := tp) (L := L) 13 (skp tp L 0) 0 [] [] ⟨by omega, by omega, by show (0 : Int) ≤ skp tp L 0; omega, by decide, Blt.z⟩
  rw [← er] at ok
  refine m58 C h281 Kr hX B (by omega) (by omega) et eL hL er ?_
  generalize wR h 46 1 (some (16 + 5 * t)) = h1 at *
  refine ⟨fun z h2 F2 G2 E2 e6 => ⟨rfl, ⟨F2.C C1, PlanAt_SH F2.1 K1, hR_fr F2 P1⟩, ?_⟩, fun z h2 F2 e6 => ⟨rfl, ⟨F2.C C1, PlanAt_SH F2.1 K1, hR_fr F2 P1⟩, ?_⟩⟩
  · have e2 : fI h2 0 13 = t := by rw [F2.f 0 13 (by unfold TUs TAd TEn; omega)]; exact e13
    rw [e2, e6, show ((t : Int) + 1 - 1) = t by omega]
    refine ⟨fun _ => ?_, fun z => absurd rfl z⟩
    obtain ⟨o1, o2, o3, o4, o5⟩ := ok z
    have F3 : Fr (T57 (16 + 5 * t)) h1 (wF (wF h2 1 1 0) 0 13 (t + 1)) := ((F2.mo (U := T57 (16 + 5 * t)) (fun _ _ z => Or.inl z)).wF (Or.inr (Or.inl ⟨rfl, rfl⟩))).wF (Or.inr (Or.inr ⟨rfl, rfl⟩))
    have Fw : Fr (fun c k => c = 1 ∨ c = 0) h2 (wF (wF h2 1 1 0) 0 13 (t + 1)) := (Fr.rf.wF (Or.inl rfl)).wF (Or.inr rfl)
    refine k1 t6 z _ (X1.tr (Gx.of F3)) (F3.1.hn.trans n1) (F3.1.hz.trans z1) (F3.C C1) (PlanAt_SH F3.1 K1) (hR_fr F3 P1) (fI_wF_eq (by omega)) (by rw [fI_wF_ne (by omega), fI_wF_eq (by omega)]) ?_
    exact ClsRule_new o5 (G2.fr Fw (fun a k z => by unfold TAd; omega)) (E2.fr Fw (fun a k z => by unfold TEn; omega))
  · have e2 : fI h2 0 13 = t := by rw [F2.f 0 13 (by unfold TUs TAd TEn; omega)]; exact e13
    rw [e6]
    refine ⟨fun q => absurd q z, fun _ => ?_⟩
    have F3 : Fr (T57 (16 + 5 * t)) h1 (wF h2 1 1 0) := (F2.mo (U := T57 (16 + 5 * t)) (fun _ _ z => Or.inl z)).wF (Or.inr (Or.inl ⟨rfl, rfl⟩))
    exact k0 t6 z _ (X1.tr (Gx.of F3)) (F3.1.hn.trans n1) (F3.1.hz.trans z1) (F3.C C1) (PlanAt_SH F3.1 K1) (hR_fr F3 P1) (by rw [fI_wF_ne (by omega)]; exact e2) (fI_wF_eq (by omega))
