/-! RULES as the class reads them: sums. -/
def pO (o : Int) : Cd := if o = 0 then [] else [(o, 0)]
def nbO (o : Int) : Int := if o = 0 then 0 else 1
theorem pO_len (o : Int) : ((pO o).length : Int) = nbO o := by unfold pO nbO; split <;> rfl
theorem cmz_0 {o : Int} (h : o = 0 ∨ (2 ≤ o ∧ o < 15)) : (cmz o = 0 ↔ o = 0) ∧ 0 ≤ cmz o ∧ cmz o < 16 := by
  unfold cmz
  by_cases c : o = 0
  · rw [if_pos c]; omega
  · rw [if_neg c]
    have := cm_b (o := o) (by omega)
    omega
-- OutwardDoors$RuleReader.addPending(I)V at 0
set_option maxRecDepth 20000 in
set_option maxHeartbeats 4000000 in
theorem r63_0 {X : Cst} {d : Nat} {x1 : Int} {ru : Nat} {h : AH} {Q : Post} (C_h : Lay h) (K_h_0 : RuleAt h ru) (P_h : hR h 46 1 = some ru)
  (w : (-2147483648 ≤ x1 ∧ x1 < 2147483648) ∧ ((x1 = 0 → Q none h) ∧ (¬ x1 = 0 → Ex X PG d 9 0 [some (.ref ru), some (.int (J x1)), some (.int (J 0))] [] h (fun v5 h6 => v5 = none ∧ SH h h6 ∧ Q none h6)))) :
    Ex X PG (d + 1) 63 0 [some (.ref 46), some (.int (J x1))] [] h Q := by
  refine wpx_ok (cut := []) 8 d 63 0 _ _ _ _ ?_
  show (((J x1) = (J 0) → Q none h) ∧ (¬ ((J x1) = (J 0)) → hs h 46 = (0, 5) ∧ ∃ q4, hR h 46 1 = some q4 ∧ hs h q4 = (0, 4) ∧ Ex X PG d 9 0 [some (.ref q4), some (.int (J x1)), some (.int (J 0))] [] h (fun v5 h6 => v5 = none ∧ Q none h6)))
  try simp only [aI_wAL, fI_wAL, aL_wA, aL_wF, aI_wA_ne, aI_wF_ne, fI_wA_ne, fI_wF_ne, fI_wF_nk, aL_wAL_ne, J_sameA, J_sameF, aL_same, Nat.add_left_cancel_iff, Nat.add_eq_left, Nat.left_eq_add, not_false_eq_true, Nat.reduceEqDiff, Nat.reduceAdd, J_add, J_sub, J_mul, J_neg, J_and, J_or, J_xor, J_shl, J_shr, J_div, J_i2b, J_i2l, J_l2i, J_lcm, J_max, J_min, J_nab, J_nao, rdA, rdF, rdL, wA_fold, wF_fold, wL_fold, wC_fold]
  obtain ⟨k3, w⟩ := w
  refine ⟨fun c1 => ?_, fun c1 => ?_⟩
  · have t2 : x1 = 0 := ((Jeq k3 (by decide)).mp c1)
    replace w := w.1 t2
    exact w
  · have t2 : ¬ x1 = 0 := (fun e => c1 ((Jeq k3 (by decide)).mpr e))
    replace w := w.2 t2
    refine ⟨(ls46 C_h), _, P_h, ?_⟩
    refine ⟨(rule_0 K_h_0), ?_⟩
    refine Ex.mono w (Nat.le_refl _) ?_
    rintro v5 h6 ⟨rfl, s7, w⟩
    refine ⟨rfl, ?_⟩
    have C_h6 := Lay_SH s7 C_h
    have K_h6_0 := RuleAt_SH s7 K_h_0
    have P_h6 := (congrFun (congrFun s7.2 46) 1).trans P_h
    try simp only [aI_wAL, fI_wAL, aL_wA, aL_wF, aI_wA_ne, aI_wF_ne, fI_wA_ne, fI_wF_ne, fI_wF_nk, aL_wAL_ne, J_sameA, J_sameF, aL_same, Nat.add_left_cancel_iff, Nat.add_eq_left, Nat.left_eq_add, not_false_eq_true, Nat.reduceEqDiff, Nat.reduceAdd, J_add, J_sub, J_mul, J_neg, J_and, J_or, J_xor, J_shl, J_shr, J_div, J_i2b, J_i2l, J_l2i, J_lcm, J_max, J_min, J_nab, J_nao, rdA, rdF, rdL, wA_fold, wF_fold, wL_fold, wC_fold]
    exact w
theorem m63 {X : Cst} {d ru : Nat} {L j p o : Int} {tp : Int → Int} {c : Cd} {h : AH} {Q : Post} (C : Lay h) (K : RuleAt h ru) (P : hR h 46 1 = some ru) (hr : 16 ≤ ru ∧ ru + 4 < 46) (hd : 2 ≤ d) (R : CC h tp L j p c ru) (hc : (c.length : Int) + nbO o ≤ j) (ho : o = 0 ∨ (2 ≤ o ∧ o < 15)) (k : ∀ h', Fr (TAd ru) h h' → CC h' tp L j p (c ++ pO o) ru → Q none h') : Ex X PG d 63 0 [some (.ref 46), some (.int (J (cmz o)))] [] h Q := by
  obtain ⟨d, rfl⟩ : ∃ e, d = e + 1 := ⟨d - 1, by omega⟩
  have z := cmz_0 ho
  have tj := R.1.2.2.1
  have tL := R.1.2.1
  refine r63_0 C K P ⟨by omega, fun c0 => ?_, fun c0 => ?_⟩
  · have := k h Fr.rf
    rw [show pO o = [] from if_pos (z.1.mp c0), List.append_nil] at this
    exact this R
  · have no : ¬ o = 0 := fun q => c0 (z.1.mpr q)
    rw [show pO o = [(o, 0)] from if_neg no] at k
    rw [show nbO o = 1 from if_neg no] at hc
    rw [show cmz o = cm o from if_neg no]
    exact m9 C K (by omega) R.2.2 (by omega) (by omega) (by omega) (fun h2 F2 G2 => ⟨rfl, F2.1, k h2 F2 (R.ad hr F2 G2)⟩)
theorem m63f {X : Cst} {d ru : Nat} {L f x : Int} {tp : Int → Int} {h : AH} {Q : Post} (C : Lay h) (K : RuleAt h ru) (P : hR h 46 1 = some ru) (hr : 16 ≤ ru ∧ ru + 4 < 46) (hd : 2 ≤ d) (hx : -2147483648 ≤ x ∧ x < 2147483648) (R : CFm h tp L f ru) (k : ∀ h', Fr (TAd ru) h h' → CFm h' tp L f ru → Q none h') : Ex X PG d 63 0 [some (.ref 46), some (.int (J x))] [] h Q := by
  obtain ⟨d, rfl⟩ : ∃ e, d = e + 1 := ⟨d - 1, by omega⟩
  refine r63_0 C K P ⟨hx, fun c0 => k h Fr.rf R, fun c0 => ?_⟩
  exact m9f C K (by omega) R.2 (fun h2 F2 G2 => ⟨rfl, F2.1, k h2 F2 (R.ad hr F2 G2)⟩)
noncomputable def tmP (tp : Int → Int) (L : Int) (n : Nat) (o j p : Int) (c : Cd) : RR := bn (vl tp L j p c) fun j1 p1 c1 => tmR tp L n j1 p1 (c1 ++ pO o)
noncomputable def smP (tp : Int → Int) (L : Int) (n : Nat) (o j p : Int) (c : Cd) : RR := bn (tm tp L j p c) fun j1 p1 c1 => smR tp L n j1 p1 (c1 ++ pO o)
theorem bn_cg {r : RR} {f g : Int → Int → Cd → RR} (e : ∀ j p c, f j p c = g j p c) : bn r f = bn r g := by
  have : f = g := by funext j p c; exact e j p c
  rw [this]
theorem tm_P (tp : Int → Int) (L j p : Int) (c : Cd) : tm tp L j p c = tmP tp L 61 0 j p c := bn_cg (fun j p c => by rw [show pO 0 = [] from rfl, List.append_nil])
theorem sm_P (tp : Int → Int) (L j p : Int) (c : Cd) : sm tp L j p c = smP tp L 61 0 j p c := bn_cg (fun j p c => by rw [show pO 0 = [] from rfl, List.append_nil])
theorem tmR_P {tp : Int → Int} {L : Int} (n : Nat) (j p : Int) (c : Cd) (z : ¬ tmO tp L j = 0) : tmR tp L (n + 1) j p c = tmP tp L n (tmO tp L j) (nx tp L j) p c := by
  show pI (tmO tp L j = 0) (0, j, p, c) (bn (vl tp L (nx tp L j) p c) fun j1 p1 c1 => tmR tp L n j1 p1 (c1 ++ [(tmO tp L j, 0)])) = _
  rw [pI_neg z]
  exact bn_cg (fun j' p c => by rw [show pO (tmO tp L j) = [(tmO tp L j, 0)] from if_neg z])
theorem smR_P {tp : Int → Int} {L : Int} (n : Nat) (j p : Int) (c : Cd) (z : ¬ smO tp L j = 0) : smR tp L (n + 1) j p c = smP tp L n (smO tp L j) (nx tp L j) p c := by
  show pI (smO tp L j = 0) (0, j, p, c) (bn (tm tp L (nx tp L j) p c) fun j1 p1 c1 => smR tp L n j1 p1 (c1 ++ [(smO tp L j, 0)])) = _
  rw [pI_neg z]
  exact bn_cg (fun j' p c => by rw [show pO (smO tp L j) = [(smO tp L j, 0)] from if_neg z])
theorem tmR_0 {tp : Int → Int} {L : Int} (n : Nat) (j p : Int) (c : Cd) (z : tmO tp L j = 0) : tmR tp L (n + 1) j p c = (0, j, p, c) := by
  show pI (tmO tp L j = 0) (0, j, p, c) (bn (vl tp L (nx tp L j) p c) fun j1 p1 c1 => tmR tp L n j1 p1 (c1 ++ [(tmO tp L j, 0)])) = _
  rw [pI_pos z]
theorem smR_0 {tp : Int → Int} {L : Int} (n : Nat) (j p : Int) (c : Cd) (z : smO tp L j = 0) : smR tp L (n + 1) j p c = (0, j, p, c) := by
  show pI (smO tp L j = 0) (0, j, p, c) (bn (tm tp L (nx tp L j) p c) fun j1 p1 c1 => smR tp L n j1 p1 (c1 ++ [(smO tp L j, 0)])) = _
  rw [pI_pos z]
theorem P46 {h h' : AH} {ru : Nat} (s : SH h h') (P : hR h 46 1 = some ru) : hR h' 46 1 = some ru := (congrFun (congrFun s.2 46) 1).trans P
-- OutwardDoors$RuleReader.readSum()V at 0
set_option maxRecDepth 20000 in
set_option maxHeartbeats 4000000 in
theorem r60_0 {X : Cst} {d : Nat} {ru : Nat} {h : AH} {Q : Post} (C_h : Lay h) (K_h_0 : RuleAt h ru) (P_h : hR h 46 1 = some ru)
  (w : Ex X PG (d + 1) 60 6 [some (.ref 46), some (.int (J 0)), some (.int (J 1)), some (.int (J 0)), none, none, none] [] h Q) :
    Ex X PG (d + 1) 60 0 [some (.ref 46), none, none, none, none, none, none] [] h Q := by
  refine wpx_ok (cut := [6, 25]) 6 d 60 0 _ _ _ _ ?_
  show Ex X PG (d + 1) 60 6 [some (.ref 46), some (.int (J 0)), some (.int (J 1)), some (.int (J 0)), none, none, none] [] h Q
  try simp only [aI_wAL, fI_wAL, aL_wA, aL_wF, aI_wA_ne, aI_wF_ne, fI_wA_ne, fI_wF_ne, fI_wF_nk, aL_wAL_ne, J_sameA, J_sameF, aL_same, Nat.add_left_cancel_iff, Nat.add_eq_left, Nat.left_eq_add, not_false_eq_true, Nat.reduceEqDiff, Nat.reduceAdd, J_add, J_sub, J_mul, J_neg, J_and, J_or, J_xor, J_shl, J_shr, J_div, J_i2b, J_i2l, J_l2i, J_lcm, J_max, J_min, J_nab, J_nao, rdA, rdF, rdL, wA_fold, wF_fold, wL_fold, wC_fold]
  exact w
-- OutwardDoors$RuleReader.readSum()V at 6
set_option maxRecDepth 20000 in
set_option maxHeartbeats 4000000 in
theorem r60_6 {X : Cst} {d : Nat} {x1 : Int} {x2 : Int} {x3 : Int} {l4 : Option Value} {l5 : Option Value} {l6 : Option Value} {ru : Nat} {h : AH} {Q : Post} (C_h : Lay h) (K_h_0 : RuleAt h ru) (P_h : hR h 46 1 = some ru)
  (w : (-2147483648 ≤ x3 ∧ x3 < 2147483648) ∧ ((60 < x3 → Q none h) ∧ (¬ 60 < x3 → (-2147483648 ≤ x2 ∧ x2 < 2147483648) ∧ ((x2 = 0 → Q none h) ∧ (¬ x2 = 0 → Ex X PG (d + 1) 60 25 [some (.ref 46), some (.int (J x1)), some (.int (J x2)), some (.int (J x3)), some (.int (J 0)), some (.int (J 1)), some (.int (J 0))] [] h Q))))) :
    Ex X PG (d + 1) 60 6 [some (.ref 46), some (.int (J x1)), some (.int (J x2)), some (.int (J x3)), l4, l5, l6] [] h Q := by
  refine wpx_ok (cut := [6, 25]) 11 d 60 6 _ _ _ _ ?_
  show (((J 60) < (J x3) → Q none h) ∧ (¬ ((J 60) < (J x3)) → (((J x2) = (J 0) → Q none h) ∧ (¬ ((J x2) = (J 0)) → Ex X PG (d + 1) 60 25 [some (.ref 46), some (.int (J x1)), some (.int (J x2)), some (.int (J x3)), some (.int (J 0)), some (.int (J 1)), some (.int (J 0))] [] h Q))))
  try simp only [aI_wAL, fI_wAL, aL_wA, aL_wF, aI_wA_ne, aI_wF_ne, fI_wA_ne, fI_wF_ne, fI_wF_nk, aL_wAL_ne, J_sameA, J_sameF, aL_same, Nat.add_left_cancel_iff, Nat.add_eq_left, Nat.left_eq_add, not_false_eq_true, Nat.reduceEqDiff, Nat.reduceAdd, J_add, J_sub, J_mul, J_neg, J_and, J_or, J_xor, J_shl, J_shr, J_div, J_i2b, J_i2l, J_l2i, J_lcm, J_max, J_min, J_nab, J_nao, rdA, rdF, rdL, wA_fold, wF_fold, wL_fold, wC_fold]
  obtain ⟨k3, w⟩ := w
  refine ⟨fun c1 => ?_, fun c1 => ?_⟩
  · have t2 : 60 < x3 := ((Jlt (by decide) k3).mp c1)
    replace w := w.1 t2
    exact w
  · have t2 : ¬ 60 < x3 := (fun e => c1 ((Jlt (by decide) k3).mpr e))
    replace w := w.2 t2
    obtain ⟨k6, w⟩ := w
    refine ⟨fun c4 => ?_, fun c4 => ?_⟩
    · have t5 : x2 = 0 := ((Jeq k6 (by decide)).mp c4)
      replace w := w.1 t5
      exact w
    · have t5 : ¬ x2 = 0 := (fun e => c4 ((Jeq k6 (by decide)).mpr e))
      replace w := w.2 t5
      exact w
-- OutwardDoors$RuleReader.readSum()V at 25
set_option maxRecDepth 20000 in
set_option maxHeartbeats 4000000 in
theorem r60_25 {X : Cst} {d : Nat} {x1 : Int} {x2 : Int} {x3 : Int} {x4 : Int} {x5 : Int} {x6 : Int} {ru : Nat} {h : AH} {Q : Post} (C_h : Lay h) (K_h_0 : RuleAt h ru) (P_h : hR h 46 1 = some ru)
  (w : (-2147483648 ≤ x6 ∧ x6 < 2147483648) ∧ ((60 < x6 → Ex X PG d 63 0 [some (.ref 46), some (.int (J x1))] [] h (fun v4 h5 => v4 = none ∧ SH h h5 ∧ Ex X PG d 65 0 [some (.ref 46), some (.int (J 43)), some (.int (J 3)), some (.int (J 45)), some (.int (J 4))] [] h5 (fun v6 h7 => ∃ r8 : Int, (-2147483648 ≤ r8 ∧ r8 < 2147483648) ∧ v6 = some (.int (J r8)) ∧ SH h5 h7 ∧ Ex X PG d 66 0 [some (.ref 46), some (.int (J r8)), none] [] h7 (fun v9 h10 => ∃ r11 : Int, (-2147483648 ≤ r11 ∧ r11 < 2147483648) ∧ v9 = some (.int (J r11)) ∧ SH h7 h10 ∧ Ex X PG (d + 1) 60 6 [some (.ref 46), some (.int (J r8)), some (.int (J r11)), some (.int (J (x3 + 1))), some (.int (J x4)), some (.int (J x5)), some (.int (J x6))] [] h10 Q)))) ∧ (¬ 60 < x6 → (-2147483648 ≤ x5 ∧ x5 < 2147483648) ∧ ((x5 = 0 → Ex X PG d 63 0 [some (.ref 46), some (.int (J x1))] [] h (fun v18 h19 => v18 = none ∧ SH h h19 ∧ Ex X PG d 65 0 [some (.ref 46), some (.int (J 43)), some (.int (J 3)), some (.int (J 45)), some (.int (J 4))] [] h19 (fun v20 h21 => ∃ r22 : Int, (-2147483648 ≤ r22 ∧ r22 < 2147483648) ∧ v20 = some (.int (J r22)) ∧ SH h19 h21 ∧ Ex X PG d 66 0 [some (.ref 46), some (.int (J r22)), none] [] h21 (fun v23 h24 => ∃ r25 : Int, (-2147483648 ≤ r25 ∧ r25 < 2147483648) ∧ v23 = some (.int (J r25)) ∧ SH h21 h24 ∧ Ex X PG (d + 1) 60 6 [some (.ref 46), some (.int (J r22)), some (.int (J r25)), some (.int (J (x3 + 1))), some (.int (J x4)), some (.int (J x5)), some (.int (J x6))] [] h24 Q)))) ∧ (¬ x5 = 0 → Ex X PG d 61 0 [some (.ref 46), none, none, none] [] h (fun v29 h30 => v29 = none ∧ SH h h30 ∧ Ex X PG d 63 0 [some (.ref 46), some (.int (J x4))] [] h30 (fun v31 h32 => v31 = none ∧ SH h30 h32 ∧ Ex X PG d 64 0 [some (.ref 46), none] [] h32 (fun v33 h34 => ∃ r35 : Int, (-2147483648 ≤ r35 ∧ r35 < 2147483648) ∧ v33 = some (.int (J r35)) ∧ SH h32 h34 ∧ Ex X PG d 66 0 [some (.ref 46), some (.int (J r35)), none] [] h34 (fun v36 h37 => ∃ r38 : Int, (-2147483648 ≤ r38 ∧ r38 < 2147483648) ∧ v36 = some (.int (J r38)) ∧ SH h34 h37 ∧ Ex X PG (d + 1) 60 25 [some (.ref 46), some (.int (J x1)), some (.int (J x2)), some (.int (J x3)), some (.int (J r35)), some (.int (J r38)), some (.int (J (x6 + 1)))] [] h37 Q))))))))) :
    Ex X PG (d + 1) 60 25 [some (.ref 46), some (.int (J x1)), some (.int (J x2)), some (.int (J x3)), some (.int (J x4)), some (.int (J x5)), some (.int (J x6))] [] h Q := by
  refine wpx_ok (cut := [6, 25]) 21 d 60 25 _ _ _ _ ?_
  show (((J 60) < (J x6) → hs h 46 = (0, 5) ∧ Ex X PG d 63 0 [some (.ref 46), some (.int (J x1))] [] h (fun v4 h5 => v4 = none ∧ hs h5 46 = (0, 5) ∧ Ex X PG d 65 0 [some (.ref 46), some (.int (J 43)), some (.int (J 3)), some (.int (J 45)), some (.int (J 4))] [] h5 (fun v6 h7 => ∃ r8, v6 = some (.int r8) ∧ hs h7 46 = (0, 5) ∧ Ex X PG d 66 0 [some (.ref 46), some (.int r8), none] [] h7 (fun v9 h10 => ∃ r11, v9 = some (.int r11) ∧ Ex X PG (d + 1) 60 6 [some (.ref 46), some (.int r8), some (.int r11), some (.int ((J x3) + (J 1))), some (.int (J x4)), some (.int (J x5)), some (.int (J x6))] [] h10 Q)))) ∧ (¬ ((J 60) < (J x6)) → (((J x5) = (J 0) → hs h 46 = (0, 5) ∧ Ex X PG d 63 0 [some (.ref 46), some (.int (J x1))] [] h (fun v18 h19 => v18 = none ∧ hs h19 46 = (0, 5) ∧ Ex X PG d 65 0 [some (.ref 46), some (.int (J 43)), some (.int (J 3)), some (.int (J 45)), some (.int (J 4))] [] h19 (fun v20 h21 => ∃ r22, v20 = some (.int r22) ∧ hs h21 46 = (0, 5) ∧ Ex X PG d 66 0 [some (.ref 46), some (.int r22), none] [] h21 (fun v23 h24 => ∃ r25, v23 = some (.int r25) ∧ Ex X PG (d + 1) 60 6 [some (.ref 46), some (.int r22), some (.int r25), some (.int ((J x3) + (J 1))), some (.int (J x4)), some (.int (J x5)), some (.int (J x6))] [] h24 Q)))) ∧ (¬ ((J x5) = (J 0)) → hs h 46 = (0, 5) ∧ Ex X PG d 61 0 [some (.ref 46), none, none, none] [] h (fun v29 h30 => v29 = none ∧ hs h30 46 = (0, 5) ∧ Ex X PG d 63 0 [some (.ref 46), some (.int (J x4))] [] h30 (fun v31 h32 => v31 = none ∧ hs h32 46 = (0, 5) ∧ Ex X PG d 64 0 [some (.ref 46), none] [] h32 (fun v33 h34 => ∃ r35, v33 = some (.int r35) ∧ hs h34 46 = (0, 5) ∧ Ex X PG d 66 0 [some (.ref 46), some (.int r35), none] [] h34 (fun v36 h37 => ∃ r38, v36 = some (.int r38) ∧ Ex X PG (d + 1) 60 25 [some (.ref 46), some (.int (J x1)), some (.int (J x2)), some (.int (J x3)), some (.int r35), some (.int r38), some (.int ((J x6) + (J 1)))] [] h37 Q))))))))
  try simp only [aI_wAL, fI_wAL, aL_wA, aL_wF, aI_wA_ne, aI_wF_ne, fI_wA_ne, fI_wF_ne, fI_wF_nk, aL_wAL_ne, J_sameA, J_sameF, aL_same, Nat.add_left_cancel_iff, Nat.add_eq_left, Nat.left_eq_add, not_false_eq_true, Nat.reduceEqDiff, Nat.reduceAdd, J_add, J_sub, J_mul, J_neg, J_and, J_or, J_xor, J_shl, J_shr, J_div, J_i2b, J_i2l, J_l2i, J_lcm, J_max, J_min, J_nab, J_nao, rdA, rdF, rdL, wA_fold, wF_fold, wL_fold, wC_fold]
  obtain ⟨k3, w⟩ := w
  refine ⟨fun c1 => ?_, fun c1 => ?_⟩
  · have t2 : 60 < x6 := ((Jlt (by decide) k3).mp c1)
    replace w := w.1 t2
    refine ⟨(ls46 C_h), ?_⟩
    refine Ex.mono w (Nat.le_refl _) ?_
    rintro v4 h5 ⟨rfl, s14, w⟩
    refine ⟨rfl, ?_⟩
    have C_h5 := Lay_SH s14 C_h
    have K_h5_0 := RuleAt_SH s14 K_h_0
    have P_h5 := (congrFun (congrFun s14.2 46) 1).trans P_h
    try simp only [aI_wAL, fI_wAL, aL_wA, aL_wF, aI_wA_ne, aI_wF_ne, fI_wA_ne, fI_wF_ne, fI_wF_nk, aL_wAL_ne, J_sameA, J_sameF, aL_same, Nat.add_left_cancel_iff, Nat.add_eq_left, Nat.left_eq_add, not_false_eq_true, Nat.reduceEqDiff, Nat.reduceAdd, J_add, J_sub, J_mul, J_neg, J_and, J_or, J_xor, J_shl, J_shr, J_div, J_i2b, J_i2l, J_l2i, J_lcm, J_max, J_min, J_nab, J_nao, rdA, rdF, rdL, wA_fold, wF_fold, wL_fold, wC_fold]
    refine ⟨(ls46 C_h5), ?_⟩
    refine Ex.mono w (Nat.le_refl _) ?_
    rintro v6 h7 ⟨r8, gr8, rfl, s13, w⟩
    refine ⟨_, rfl, ?_⟩
    have C_h7 := Lay_SH s13 C_h5
    have K_h7_0 := RuleAt_SH s13 K_h5_0
    have P_h7 := (congrFun (congrFun s13.2 46) 1).trans P_h5
    try simp only [aI_wAL, fI_wAL, aL_wA, aL_wF, aI_wA_ne, aI_wF_ne, fI_wA_ne, fI_wF_ne, fI_wF_nk, aL_wAL_ne, J_sameA, J_sameF, aL_same, Nat.add_left_cancel_iff, Nat.add_eq_left, Nat.left_eq_add, not_false_eq_true, Nat.reduceEqDiff, Nat.reduceAdd, J_add, J_sub, J_mul, J_neg, J_and, J_or, J_xor, J_shl, J_shr, J_div, J_i2b, J_i2l, J_l2i, J_lcm, J_max, J_min, J_nab, J_nao, rdA, rdF, rdL, wA_fold, wF_fold, wL_fold, wC_fold]
    refine ⟨(ls46 C_h7), ?_⟩
    refine Ex.mono w (Nat.le_refl _) ?_
    rintro v9 h10 ⟨r11, gr11, rfl, s12, w⟩
    refine ⟨_, rfl, ?_⟩
    have C_h10 := Lay_SH s12 C_h7
    have K_h10_0 := RuleAt_SH s12 K_h7_0
    have P_h10 := (congrFun (congrFun s12.2 46) 1).trans P_h7
    try simp only [aI_wAL, fI_wAL, aL_wA, aL_wF, aI_wA_ne, aI_wF_ne, fI_wA_ne, fI_wF_ne, fI_wF_nk, aL_wAL_ne, J_sameA, J_sameF, aL_same, Nat.add_left_cancel_iff, Nat.add_eq_left, Nat.left_eq_add, not_false_eq_true, Nat.reduceEqDiff, Nat.reduceAdd, J_add, J_sub, J_mul, J_neg, J_and, J_or, J_xor, J_shl, J_shr, J_div, J_i2b, J_i2l, J_l2i, J_lcm, J_max, J_min, J_nab, J_nao, rdA, rdF, rdL, wA_fold, wF_fold, wL_fold, wC_fold]
    exact w
  · have t2 : ¬ 60 < x6 := (fun e => c1 ((Jlt (by decide) k3).mpr e))
    replace w := w.2 t2
    obtain ⟨k17, w⟩ := w
    refine ⟨fun c15 => ?_, fun c15 => ?_⟩
    · have t16 : x5 = 0 := ((Jeq k17 (by decide)).mp c15)
      replace w := w.1 t16
      refine ⟨(ls46 C_h), ?_⟩
      refine Ex.mono w (Nat.le_refl _) ?_
      rintro v18 h19 ⟨rfl, s28, w⟩
      refine ⟨rfl, ?_⟩
      have C_h19 := Lay_SH s28 C_h
      have K_h19_0 := RuleAt_SH s28 K_h_0
      have P_h19 := (congrFun (congrFun s28.2 46) 1).trans P_h
      try simp only [aI_wAL, fI_wAL, aL_wA, aL_wF, aI_wA_ne, aI_wF_ne, fI_wA_ne, fI_wF_ne, fI_wF_nk, aL_wAL_ne, J_sameA, J_sameF, aL_same, Nat.add_left_cancel_iff, Nat.add_eq_left, Nat.left_eq_add, not_false_eq_true, Nat.reduceEqDiff, Nat.reduceAdd, J_add, J_sub, J_mul, J_neg, J_and, J_or, J_xor, J_shl, J_shr, J_div, J_i2b, J_i2l, J_l2i, J_lcm, J_max, J_min, J_nab, J_nao, rdA, rdF, rdL, wA_fold, wF_fold, wL_fold, wC_fold]
      refine ⟨(ls46 C_h19), ?_⟩
      refine Ex.mono w (Nat.le_refl _) ?_
      rintro v20 h21 ⟨r22, gr22, rfl, s27, w⟩
      refine ⟨_, rfl, ?_⟩
      have C_h21 := Lay_SH s27 C_h19
      have K_h21_0 := RuleAt_SH s27 K_h19_0
      have P_h21 := (congrFun (congrFun s27.2 46) 1).trans P_h19
      try simp only [aI_wAL, fI_wAL, aL_wA, aL_wF, aI_wA_ne, aI_wF_ne, fI_wA_ne, fI_wF_ne, fI_wF_nk, aL_wAL_ne, J_sameA, J_sameF, aL_same, Nat.add_left_cancel_iff, Nat.add_eq_left, Nat.left_eq_add, not_false_eq_true, Nat.reduceEqDiff, Nat.reduceAdd, J_add, J_sub, J_mul, J_neg, J_and, J_or, J_xor, J_shl, J_shr, J_div, J_i2b, J_i2l, J_l2i, J_lcm, J_max, J_min, J_nab, J_nao, rdA, rdF, rdL, wA_fold, wF_fold, wL_fold, wC_fold]
      refine ⟨(ls46 C_h21), ?_⟩
      refine Ex.mono w (Nat.le_refl _) ?_
      rintro v23 h24 ⟨r25, gr25, rfl, s26, w⟩
      refine ⟨_, rfl, ?_⟩
      have C_h24 := Lay_SH s26 C_h21
      have K_h24_0 := RuleAt_SH s26 K_h21_0
      have P_h24 := (congrFun (congrFun s26.2 46) 1).trans P_h21
      try simp only [aI_wAL, fI_wAL, aL_wA, aL_wF, aI_wA_ne, aI_wF_ne, fI_wA_ne, fI_wF_ne, fI_wF_nk, aL_wAL_ne, J_sameA, J_sameF, aL_same, Nat.add_left_cancel_iff, Nat.add_eq_left, Nat.left_eq_add, not_false_eq_true, Nat.reduceEqDiff, Nat.reduceAdd, J_add, J_sub, J_mul, J_neg, J_and, J_or, J_xor, J_shl, J_shr, J_div, J_i2b, J_i2l, J_l2i, J_lcm, J_max, J_min, J_nab, J_nao, rdA, rdF, rdL, wA_fold, wF_fold, wL_fold, wC_fold]
      exact w
    · have t16 : ¬ x5 = 0 := (fun e => c15 ((Jeq k17 (by decide)).mpr e))
      replace w := w.2 t16
      refine ⟨(ls46 C_h), ?_⟩
      refine Ex.mono w (Nat.le_refl _) ?_
      rintro v29 h30 ⟨rfl, s42, w⟩
      refine ⟨rfl, ?_⟩
      have C_h30 := Lay_SH s42 C_h
      have K_h30_0 := RuleAt_SH s42 K_h_0
      have P_h30 := (congrFun (congrFun s42.2 46) 1).trans P_h
      try simp only [aI_wAL, fI_wAL, aL_wA, aL_wF, aI_wA_ne, aI_wF_ne, fI_wA_ne, fI_wF_ne, fI_wF_nk, aL_wAL_ne, J_sameA, J_sameF, aL_same, Nat.add_left_cancel_iff, Nat.add_eq_left, Nat.left_eq_add, not_false_eq_true, Nat.reduceEqDiff, Nat.reduceAdd, J_add, J_sub, J_mul, J_neg, J_and, J_or, J_xor, J_shl, J_shr, J_div, J_i2b, J_i2l, J_l2i, J_lcm, J_max, J_min, J_nab, J_nao, rdA, rdF, rdL, wA_fold, wF_fold, wL_fold, wC_fold]
      refine ⟨(ls46 C_h30), ?_⟩
      refine Ex.mono w (Nat.le_refl _) ?_
      rintro v31 h32 ⟨rfl, s41, w⟩
      refine ⟨rfl, ?_⟩
      have C_h32 := Lay_SH s41 C_h30
      have K_h32_0 := RuleAt_SH s41 K_h30_0
      have P_h32 := (congrFun (congrFun s41.2 46) 1).trans P_h30
      try simp only [aI_wAL, fI_wAL, aL_wA, aL_wF, aI_wA_ne, aI_wF_ne, fI_wA_ne, fI_wF_ne, fI_wF_nk, aL_wAL_ne, J_sameA, J_sameF, aL_same, Nat.add_left_cancel_iff, Nat.add_eq_left, Nat.left_eq_add, not_false_eq_true, Nat.reduceEqDiff, Nat.reduceAdd, J_add, J_sub, J_mul, J_neg, J_and, J_or, J_xor, J_shl, J_shr, J_div, J_i2b, J_i2l, J_l2i, J_lcm, J_max, J_min, J_nab, J_nao, rdA, rdF, rdL, wA_fold, wF_fold, wL_fold, wC_fold]
      refine ⟨(ls46 C_h32), ?_⟩
      refine Ex.mono w (Nat.le_refl _) ?_
      rintro v33 h34 ⟨r35, gr35, rfl, s40, w⟩
      refine ⟨_, rfl, ?_⟩
      have C_h34 := Lay_SH s40 C_h32
      have K_h34_0 := RuleAt_SH s40 K_h32_0
      have P_h34 := (congrFun (congrFun s40.2 46) 1).trans P_h32
      try simp only [aI_wAL, fI_wAL, aL_wA, aL_wF, aI_wA_ne, aI_wF_ne, fI_wA_ne, fI_wF_ne, fI_wF_nk, aL_wAL_ne, J_sameA, J_sameF, aL_same, Nat.add_left_cancel_iff, Nat.add_eq_left, Nat.left_eq_add, not_false_eq_true, Nat.reduceEqDiff, Nat.reduceAdd, J_add, J_sub, J_mul, J_neg, J_and, J_or, J_xor, J_shl, J_shr, J_div, J_i2b, J_i2l, J_l2i, J_lcm, J_max, J_min, J_nab, J_nao, rdA, rdF, rdL, wA_fold, wF_fold, wL_fold, wC_fold]
      refine ⟨(ls46 C_h34), ?_⟩
      refine Ex.mono w (Nat.le_refl _) ?_
      rintro v36 h37 ⟨r38, gr38, rfl, s39, w⟩
      refine ⟨_, rfl, ?_⟩
      have C_h37 := Lay_SH s39 C_h34
      have K_h37_0 := RuleAt_SH s39 K_h34_0
      have P_h37 := (congrFun (congrFun s39.2 46) 1).trans P_h34
      try simp only [aI_wAL, fI_wAL, aL_wA, aL_wF, aI_wA_ne, aI_wF_ne, fI_wA_ne, fI_wF_ne, fI_wF_nk, aL_wAL_ne, J_sameA, J_sameF, aL_same, Nat.add_left_cancel_iff, Nat.add_eq_left, Nat.left_eq_add, not_false_eq_true, Nat.reduceEqDiff, Nat.reduceAdd, J_add, J_sub, J_mul, J_neg, J_and, J_or, J_xor, J_shl, J_shr, J_div, J_i2b, J_i2l, J_l2i, J_lcm, J_max, J_min, J_nab, J_nao, rdA, rdF, rdL, wA_fold, wF_fold, wL_fold, wC_fold]
      exact w
/-- the inner loop's end, over h: what is to be shown there -/
def InE (X : Cst) (d ru : Nat) (tp : Int → Int) (L x1 x3 : Int) (h : AH) (Q : Post) (r : RR) : Prop :=
  (r.1 = 0 → ∀ (x4 x6 : Int) (h' : AH), 0 ≤ x6 ∧ x6 ≤ 100 → Fr (TUr ru) h h' → CC h' tp L r.2.1 r.2.2.1 r.2.2.2 ru → Ex X PG (d + 1) 60 25 [some (.ref 46), some (.int (J x1)), some (.int (J 1)), some (.int (J x3)), some (.int (J x4)), some (.int (J 0)), some (.int (J x6))] [] h' Q) ∧
  (¬ r.1 = 0 → ∀ (x4 x6 : Int) (h' : AH), 0 ≤ x6 ∧ x6 ≤ 100 → Fr (TUr ru) h h' → CFm h' tp L r.1 ru → Ex X PG (d + 1) 60 25 [some (.ref 46), some (.int (J x1)), some (.int (J 1)), some (.int (J x3)), some (.int (J x4)), some (.int (J 0)), some (.int (J x6))] [] h' Q)
def InP (X : Cst) (d ru : Nat) (tp : Int → Int) (L x1 x3 : Int) (h : AH) (Q : Post) (n : Nat) : Prop :=
  ∀ (x6 o j p : Int) (c : Cd) (h' : AH), 60 ≤ n + p → 0 ≤ p ∧ p ≤ 60 → 0 ≤ x6 ∧ x6 ≤ p → (o = 0 ∨ (2 ≤ o ∧ o < 15)) → Fr (TUr ru) h h' → CC h' tp L j p c ru → (c.length : Int) + nbO o ≤ j → InE X d ru tp L x1 x3 h Q (tmP tp L n o j p c) →
    Ex X PG (d + 1) 60 25 [some (.ref 46), some (.int (J x1)), some (.int (J 1)), some (.int (J x3)), some (.int (J (cmz o))), some (.int (J 1)), some (.int (J x6))] [] h' Q
theorem InP_s {X : Cst} {d ru : Nat} {tp : Int → Int} {L x1 x3 : Int} {h : AH} {Q : Post} (C : Lay h) (K : RuleAt h ru) (P : hR h 46 1 = some ru) (hX : X.2 = X2) (hr : 16 ≤ ru ∧ ru + 4 < 46) (hd : 4 ≤ d) (n : Nat) (ih : ∀ m, n = m + 1 → InP X d ru tp L x1 x3 h Q m) : InP X d ru tp L x1 x3 h Q n := by
  intro x6 o j p c h' hn hp h6 ho F R hc k
  have C' := F.C C
  have K' := RuleAt_SH F.1 K
  have P' := P46 F.1 P
  have tj := R.1.2.2.1
  have tL := R.1.2.1
  have z := cmz_0 ho
  have nO : 0 ≤ nbO o := by unfold nbO; split <;> omega
  unfold tmP at k
  refine r60_25 C' K' P' ⟨by omega, fun z => absurd z (by omega), fun _ => ⟨by omega, fun z => absurd z (by decide), fun _ => ?_⟩⟩
  refine m61 C' K' P' hX hr (by omega) R (by omega) hp ⟨fun e h2 F2 R2 => ⟨rfl, F2.1, ?_⟩, fun e h2 F2 R2 => ⟨rfl, F2.1, ?_⟩⟩
  · rw [bn_pos e] at k
    obtain ⟨g1, g2, dd, g3, g4, -⟩ := Gd_vl (tp := tp) (c := c) tj.1 tj.2 hp.2 e
    generalize (vl tp L j p c).2.1 = j1 at *
    generalize (vl tp L j p c).2.2.1 = p1 at *
    generalize (vl tp L j p c).2.2.2 = c1 at *
    have cl : (c1.length : Int) + nbO o ≤ j1 := by rw [g3, List.length_append]; omega
    have G2 := F.tr F2
    refine m63 (G2.C C) (RuleAt_SH G2.1 K) (P46 G2.1 P) hr (by omega) R2 cl ho (fun h3 F3 R3 => ⟨rfl, F3.1, ?_⟩)
    have G3 := G2.tr (F3.mo (fun _ _ => TAd_u))
    have cl3 : ((c1 ++ pO o).length : Int) ≤ j1 := by rw [List.length_append]; have := pO_len o; omega
    refine m64 (G3.C C) (RuleAt_SH G3.1 K) (P46 G3.1 P) (by omega) R3.1 ?_
    have tb := (tmO_b (tp := tp) (L := L) (j := j1))
    have z1 := cmz_0 (o := tmO tp L j1) (by omega)
    refine ⟨_, by omega, rfl, SH.rf, ?_⟩
    obtain ⟨m, rfl⟩ : ∃ m, n = m + 1 := ⟨n - 1, by omega⟩
    refine m66 (G3.C C) (RuleAt_SH G3.1 K) (P46 G3.1 P) (by omega) R3.1 (by omega) (fun y => ⟨0, by omega, rfl, SH.rf, ?_⟩) (fun n1 _ h4 F4 T4 => ⟨1, by omega, rfl, F4.1, ?_⟩)
    · have t0 : tmO tp L j1 = 0 := by rcases y with y | y; exact z1.1.mp y; exact absurd rfl y
      rw [tmR_0 m _ _ _ t0] at k
      exact k.1 rfl _ _ h3 (by omega) G3 R3
    · have t0 : ¬ tmO tp L j1 = 0 := fun q => n1 (z1.1.mpr q)
      rw [tmR_P m _ _ _ t0] at k
      have lt : j1 < L := by omega
      have nb := nx_b (tp := tp) (L := L) (j := j1) (by omega) (by omega)
      exact ih m rfl (x6 + 1) (tmO tp L j1) (nx tp L j1) p1 _ h4 (by omega) (by omega) (by omega) (by omega) (G3.tr (F4.mo (fun _ _ => TTk_u))) (R3.tk hr.1 F4 T4) (by rw [show nbO (tmO tp L j1) = 1 from if_neg t0]; omega) k
  · rw [bn_neg e] at k
    have G2 := F.tr F2
    refine m63f (G2.C C) (RuleAt_SH G2.1 K) (P46 G2.1 P) hr (by omega) (by omega) R2 (fun h3 F3 R3 => ⟨rfl, F3.1, ?_⟩)
    have G3 := G2.tr (F3.mo (fun _ _ => TAd_u))
    obtain ⟨⟨j3, T3⟩, q3⟩ := id R3
    have tb := (tmO_b (tp := tp) (L := L) (j := j3))
    have z1 := cmz_0 (o := tmO tp L j3) (by omega)
    refine m64 (G3.C C) (RuleAt_SH G3.1 K) (P46 G3.1 P) (by omega) T3 ⟨_, by omega, rfl, SH.rf, ?_⟩
    refine m66 (G3.C C) (RuleAt_SH G3.1 K) (P46 G3.1 P) (by omega) T3 (by omega) (fun y => ⟨0, by omega, rfl, SH.rf, ?_⟩) (fun _ q => absurd q e)
    exact k.2 e _ _ h3 (by omega) G3 R3
theorem InP_all {X : Cst} {d ru : Nat} {tp : Int → Int} {L x1 x3 : Int} {h : AH} {Q : Post} (C : Lay h) (K : RuleAt h ru) (P : hR h 46 1 = some ru) (hX : X.2 = X2) (hr : 16 ≤ ru ∧ ru + 4 < 46) (hd : 4 ≤ d) : ∀ n, InP X d ru tp L x1 x3 h Q n := by
  intro n
  induction n with
  | zero => exact InP_s C K P hX hr hd 0 (fun m e => by omega)
  | succ n ih => exact InP_s C K P hX hr hd (n + 1) (fun m e => by obtain rfl : n = m := by omega
                                                                   exact ih)
def OuP (X : Cst) (d ru : Nat) (tp : Int → Int) (L : Int) (h : AH) (Q : Post) (n : Nat) : Prop :=
  ∀ (x3 o j p : Int) (c : Cd) (l4 l5 l6 : Option Value) (h' : AH), 60 ≤ n + p → 0 ≤ p ∧ p ≤ 60 → 0 ≤ x3 ∧ x3 ≤ p → (o = 0 ∨ (2 ≤ o ∧ o < 15)) → Fr (TUr ru) h h' → CC h' tp L j p c ru → (c.length : Int) + nbO o ≤ j → CQu h tp L ru (smP tp L n o j p c) Q →
    Ex X PG (d + 1) 60 6 [some (.ref 46), some (.int (J (cmz o))), some (.int (J 1)), some (.int (J x3)), l4, l5, l6] [] h' Q
theorem OuP_s {X : Cst} {d ru : Nat} {tp : Int → Int} {L : Int} {h : AH} {Q : Post} (C : Lay h) (K : RuleAt h ru) (P : hR h 46 1 = some ru) (hX : X.2 = X2) (hr : 16 ≤ ru ∧ ru + 4 < 46) (hd : 4 ≤ d) (n : Nat) (ih : ∀ m, n = m + 1 → OuP X d ru tp L h Q m) : OuP X d ru tp L h Q n := by
  intro x3 o j p c l4 l5 l6 h' hn hp h3 ho F R hc k
  have C' := F.C C
  have K' := RuleAt_SH F.1 K
  have P' := P46 F.1 P
  have tj := R.1.2.2.1
  have tL := R.1.2.1
  have z := cmz_0 ho
  have nO : 0 ≤ nbO o := by unfold nbO; split <;> omega
  unfold smP at k
  -- the loop's end
  have fin : ∀ (x1 x : Int) (l4 l5 l6 : Option Value) (h2 : AH), Fr (TUr ru) h h2 → 0 ≤ x ∧ x ≤ 100 → Q none h2 → Ex X PG (d + 1) 60 6 [some (.ref 46), some (.int (J x1)), some (.int (J 0)), some (.int (J x)), l4, l5, l6] [] h2 Q := fun x1 x l4 l5 l6 h2 F2 hx q =>
    r60_6 (F2.C C) (RuleAt_SH F2.1 K) (P46 F2.1 P) ⟨by omega, fun _ => q, fun _ => ⟨by omega, fun _ => q, fun z => absurd rfl z⟩⟩
  refine r60_6 C' K' P' ⟨by omega, fun z => absurd z (by omega), fun _ => ⟨by omega, fun z => absurd z (by decide), fun _ => ?_⟩⟩
  refine InP_all (L := L) (tp := tp) C K P hX hr hd 61 0 0 j p c h' (by omega) hp (by omega) (Or.inl rfl) F R (by show (c.length : Int) + 0 ≤ j; omega) ?_
  rw [← tm_P]
  refine ⟨fun e x4 x6 h2 h6 F2 R2 => ?_, fun e x4 x6 h2 h6 F2 R2 => ?_⟩
  · rw [bn_pos e] at k
    obtain ⟨g1, g2, dd, g3, g4, -⟩ := Gd_tm (tp := tp) (c := c) tj.1 tj.2 hp.2 e
    generalize (tm tp L j p c).2.1 = j1 at *
    generalize (tm tp L j p c).2.2.1 = p1 at *
    generalize (tm tp L j p c).2.2.2 = c1 at *
    have cl : (c1.length : Int) + nbO o ≤ j1 := by rw [g3, List.length_append]; omega
    have go : Ex X PG d 63 0 [some (.ref 46), some (.int (J (cmz o)))] [] h2 (fun v4 h5 => v4 = none ∧ SH h2 h5 ∧ Ex X PG d 65 0 [some (.ref 46), some (.int (J 43)), some (.int (J 3)), some (.int (J 45)), some (.int (J 4))] [] h5 (fun v6 h7 => ∃ r8 : Int, (-2147483648 ≤ r8 ∧ r8 < 2147483648) ∧ v6 = some (.int (J r8)) ∧ SH h5 h7 ∧ Ex X PG d 66 0 [some (.ref 46), some (.int (J r8)), none] [] h7 (fun v9 h10 => ∃ r11 : Int, (-2147483648 ≤ r11 ∧ r11 < 2147483648) ∧ v9 = some (.int (J r11)) ∧ SH h7 h10 ∧ Ex X PG (d + 1) 60 6 [some (.ref 46), some (.int (J r8)), some (.int (J r11)), some (.int (J (x3 + 1))), some (.int (J x4)), some (.int (J 0)), some (.int (J x6))] [] h10 Q))) := by
      refine m63 (F2.C C) (RuleAt_SH F2.1 K) (P46 F2.1 P) hr (by omega) R2 cl ho (fun h3 F3 R3 => ⟨rfl, F3.1, ?_⟩)
      have G3 := F2.tr (F3.mo (fun _ _ => TAd_u))
      have cl3 : ((c1 ++ pO o).length : Int) ≤ j1 := by rw [List.length_append]; have := pO_len o; omega
      have tb := (smO_b (tp := tp) (L := L) (j := j1))
      have z1 := cmz_0 (o := smO tp L j1) (by omega)
      refine m65s (G3.C C) (RuleAt_SH G3.1 K) (P46 G3.1 P) (by omega) R3.1 ⟨_, by omega, rfl, SH.rf, ?_⟩
      obtain ⟨m, rfl⟩ : ∃ m, n = m + 1 := ⟨n - 1, by omega⟩
      refine m66 (G3.C C) (RuleAt_SH G3.1 K) (P46 G3.1 P) (by omega) R3.1 (by omega) (fun y => ⟨0, by omega, rfl, SH.rf, ?_⟩) (fun n1 _ h4 F4 T4 => ⟨1, by omega, rfl, F4.1, ?_⟩)
      · have t0 : smO tp L j1 = 0 := by rcases y with y | y; exact z1.1.mp y; exact absurd rfl y
        rw [smR_0 m _ _ _ t0] at k
        exact fin _ _ _ _ _ h3 G3 (by omega) (k.1 rfl h3 G3 R3)
      · have t0 : ¬ smO tp L j1 = 0 := fun q => n1 (z1.1.mpr q)
        rw [smR_P m _ _ _ t0] at k
        have lt : j1 < L := by omega
        have nb := nx_b (tp := tp) (L := L) (j := j1) (by omega) (by omega)
        exact ih m rfl (x3 + 1) (smO tp L j1) (nx tp L j1) p1 _ _ _ _ h4 (by omega) (by omega) (by omega) (by omega) (G3.tr (F4.mo (fun _ _ => TTk_u))) (R3.tk hr.1 F4 T4) (by rw [show nbO (smO tp L j1) = 1 from if_neg t0]; omega) k
    exact r60_25 (F2.C C) (RuleAt_SH F2.1 K) (P46 F2.1 P) ⟨by omega, fun _ => go, fun _ => ⟨by omega, fun _ => go, fun z => absurd rfl z⟩⟩
  · rw [bn_neg e] at k
    have go : Ex X PG d 63 0 [some (.ref 46), some (.int (J (cmz o)))] [] h2 (fun v4 h5 => v4 = none ∧ SH h2 h5 ∧ Ex X PG d 65 0 [some (.ref 46), some (.int (J 43)), some (.int (J 3)), some (.int (J 45)), some (.int (J 4))] [] h5 (fun v6 h7 => ∃ r8 : Int, (-2147483648 ≤ r8 ∧ r8 < 2147483648) ∧ v6 = some (.int (J r8)) ∧ SH h5 h7 ∧ Ex X PG d 66 0 [some (.ref 46), some (.int (J r8)), none] [] h7 (fun v9 h10 => ∃ r11 : Int, (-2147483648 ≤ r11 ∧ r11 < 2147483648) ∧ v9 = some (.int (J r11)) ∧ SH h7 h10 ∧ Ex X PG (d + 1) 60 6 [some (.ref 46), some (.int (J r8)), some (.int (J r11)), some (.int (J (x3 + 1))), some (.int (J x4)), some (.int (J 0)), some (.int (J x6))] [] h10 Q))) := by
      refine m63f (F2.C C) (RuleAt_SH F2.1 K) (P46 F2.1 P) hr (by omega) (by omega) R2 (fun h3 F3 R3 => ⟨rfl, F3.1, ?_⟩)
      have G3 := F2.tr (F3.mo (fun _ _ => TAd_u))
      obtain ⟨⟨j3, T3⟩, q3⟩ := id R3
      have tb := (smO_b (tp := tp) (L := L) (j := j3))
      have z1 := cmz_0 (o := smO tp L j3) (by omega)
      refine m65s (G3.C C) (RuleAt_SH G3.1 K) (P46 G3.1 P) (by omega) T3 ⟨_, by omega, rfl, SH.rf, ?_⟩
      refine m66 (G3.C C) (RuleAt_SH G3.1 K) (P46 G3.1 P) (by omega) T3 (by omega) (fun y => ⟨0, by omega, rfl, SH.rf, ?_⟩) (fun _ q => absurd q e)
      exact fin _ _ _ _ _ h3 G3 (by omega) (k.2 e h3 G3 R3)
    exact r60_25 (F2.C C) (RuleAt_SH F2.1 K) (P46 F2.1 P) ⟨by omega, fun _ => go, fun _ => ⟨by omega, fun _ => go, fun z => absurd rfl z⟩⟩
theorem OuP_all {X : Cst} {d ru : Nat} {tp : Int → Int} {L : Int} {h : AH} {Q : Post} (C : Lay h) (K : RuleAt h ru) (P : hR h 46 1 = some ru) (hX : X.2 = X2) (hr : 16 ≤ ru ∧ ru + 4 < 46) (hd : 4 ≤ d) : ∀ n, OuP X d ru tp L h Q n := by
  intro n
  induction n with
  | zero => exact OuP_s C K P hX hr hd 0 (fun m e => by omega)
  | succ n ih => exact OuP_s C K P hX hr hd (n + 1) (fun m e => by obtain rfl : n = m := by omega
                                                                   exact ih)
theorem m60 {X : Cst} {d ru : Nat} {L j p : Int} {tp : Int → Int} {c : Cd} {h : AH} {Q : Post} (C : Lay h) (K : RuleAt h ru) (P : hR h 46 1 = some ru) (hX : X.2 = X2) (hr : 16 ≤ ru ∧ ru + 4 < 46) (hd : 5 ≤ d) (R : CC h tp L j p c ru) (hc : (c.length : Int) ≤ j) (hp : 0 ≤ p ∧ p ≤ 60) (k : CQu h tp L ru (sm tp L j p c) Q) : Ex X PG d 60 0 [some (.ref 46), none, none, none, none, none, none] [] h Q := by
  obtain ⟨d, rfl⟩ : ∃ e, d = e + 1 := ⟨d - 1, by omega⟩
  rw [sm_P] at k
  exact r60_0 C K P (OuP_all C K P hX hr (by omega) 61 0 0 j p c _ _ _ h (by omega) hp (by omega) (Or.inl rfl) Fr.rf R (by show (c.length : Int) + 0 ≤ j; omega) k)
