/-! THE CLASS: will of a rule; the mover's words, target, door. -/
theorem ev_TV {op ar : Int → Int} {w : Int → Int64} : ∀ (n : Nat) (i : Int) (st : List Int64) (s s' : List Bool), tr op n i s = some s' → TV st s → TV (ev op ar w n i st) s' := by
  intro n
  induction n with
  | zero => intro i st s s' h v; cases h; exact v
  | succ n ih =>
    intro i st s s' h v
    unfold tr at h
    cases e1 : tr1 (op i) s with
    | none => rw [e1] at h; cases h
    | some s1 => rw [e1] at h; exact ih _ _ _ _ h (ev1_TV e1 v)
theorem val_01 {R : Ru} {w : Int → Int64} {b e : Int} (h : tr (oP R) (e - b).toNat b [] = some [true]) : val R w b e = 0 ∨ val R w b e = 1 := by
  have v := ev_TV (ar := aR R) (w := w) _ _ [] [] _ h trivial
  unfold val
  match ev (oP R) (aR R) w (e - b).toNat b [], v with
  | [x], v => exact v.1 rfl
def ClsRule (h : AH) (a : Nat) (R : Ru) : Prop := fI h a 5 = nC R ∧ ∀ c, 0 ≤ c → c < nC R → aI h (a + 2) c = sE R c ∧ aI h (a + 3) c = tE R c ∧ ∀ j, tb R c ≤ j → j < tE R c → aI h (a + 1) j = cm (oP R j) + 16 * aR R j
theorem ClsRule.fr {T : Nat → Nat → Prop} {h h' : AH} {a : Nat} {R : Ru} (P : ClsRule h a R) (F : Fr T h h') (n : ∀ c k, T c k → c < a ∨ a + 3 < c) : ClsRule h' a R := by
  unfold ClsRule
  rw [F.f a 5 (fun z => by have := n _ _ z; omega), F.a (a + 1) (fun k z => by have := n _ _ z; omega), F.a (a + 2) (fun k z => by have := n _ _ z; omega), F.a (a + 3) (fun k z => by have := n _ _ z; omega)]
  exact P
theorem m93 {X : Cst} {d : Nat} {a : Nat} {b e : Int} {R : Ru} {T : Bool} {h : AH} {Q : Post} (C : Lay h) (K : RuleAt h a) (hd : 2 ≤ d) (hb : 0 ≤ b) (hbe : b ≤ e) (he : e ≤ 400) (ha : argOK R b e) (hc : ∀ j, b ≤ j → j < e → aI h (a + 1) j = cm (oP R j) + 16 * aR R j) (h6 : a + 4 < 246 ∨ 246 < a) (hT : tr (oP R) (e - b).toNat b [] = some [T]) (hn : nvc (oP R) (e - b).toNat b ≤ 64)
    (k : ∀ h', Fr (fun c _ => c = a + 4) h h' → Q (some (.long (val R (fun k => i2l (aI h 246 k)) b e))) h') : Ex X PG d 93 0 [some (.ref a), some (.int (J b)), some (.int (J e)), some (.ref 246), none, none, none, none] [] h Q := by
  obtain ⟨d, rfl⟩ : ∃ e, d = e + 1 := ⟨d - 1, by omega⟩
  refine r93_0 C K ?_
  exact q93_6 (R := R) C K (by omega) hb he ha hc h6 k (e - b).toNat b h [] [] T none none Fr.rf (by omega) (Int.le_refl _) trivial trivial hT (by show 0 + _ ≤ 64; omega) rfl
-- OutwardDoors$Rule.will([I)J at 0
set_option maxRecDepth 20000 in
set_option maxHeartbeats 4000000 in
theorem r92_0 {X : Cst} {d : Nat} {a : Nat} {h : AH} {Q : Post} (C_h : Lay h) (K_h_0 : RuleAt h a)
  (w : Ex X PG (d + 1) 92 4 [some (.ref a), some (.ref 246), some (.int (J 0)), some (.int (J 0)), none, none] [] h Q) :
    Ex X PG (d + 1) 92 0 [some (.ref a), some (.ref 246), none, none, none, none] [] h Q := by
  refine wpx_ok (cut := [4]) 4 d 92 0 _ _ _ _ ?_
  show Ex X PG (d + 1) 92 4 [some (.ref a), some (.ref 246), some (.int (J 0)), some (.int (J 0)), none, none] [] h Q
  try simp only [aI_wAL, fI_wAL, aL_wA, aL_wF, aI_wA_ne, aI_wF_ne, fI_wA_ne, fI_wF_ne, fI_wF_nk, aL_wAL_ne, J_sameA, J_sameF, aL_same, Nat.add_left_cancel_iff, Nat.add_eq_left, Nat.left_eq_add, not_false_eq_true, Nat.reduceEqDiff, Nat.reduceAdd, J_add, J_sub, J_mul, J_neg, J_and, J_or, J_xor, J_shl, J_shr, J_div, J_i2b, J_i2l, J_l2i, J_lcm, J_max, J_min, J_nab, J_nao, rdA, rdF, rdL, wA_fold, wF_fold, wL_fold, wC_fold]
  exact w
-- OutwardDoors$Rule.will([I)J at 4
set_option maxRecDepth 20000 in
set_option maxHeartbeats 4000000 in
theorem r92_4 {X : Cst} {d : Nat} {a : Nat} {x2 : Int} {x3 : Int} {l4 : Option Value} {l5 : Option Value} {h : AH} {Q : Post} (C_h : Lay h) (K_h_0 : RuleAt h a)
  (w : (-2147483648 ≤ x3 ∧ x3 < 2147483648) ∧ ((fI h a 5 ≤ x3 → Q (some (.long (0 : Int64))) h) ∧ (¬ fI h a 5 ≤ x3 → (0 ≤ x3 ∧ x3 < 12) ∧ ((aI h (a + 2) x3 = aI h (a + 3) x3 → Ex X PG d 93 0 [some (.ref a), some (.int (J x2)), some (.int (J (aI h (a + 2) x3))), some (.ref 246), none, none, none, none] [] h (fun v9 h10 => ∃ r11, v9 = some (.long r11) ∧ SH h h10 ∧ Q (some (.long r11)) h10)) ∧ (¬ aI h (a + 2) x3 = aI h (a + 3) x3 → Ex X PG d 93 0 [some (.ref a), some (.int (J (aI h (a + 2) x3))), some (.int (J (aI h (a + 3) x3))), some (.ref 246), none, none, none, none] [] h (fun v13 h14 => ∃ r15, v13 = some (.long r15) ∧ SH h h14 ∧ ((lcm r15 (0 : Int64) = 0 → Ex X PG (d + 1) 92 4 [some (.ref a), some (.ref 246), some (.int (J (aI h (a + 3) x3))), some (.int (J (x3 + 1))), some (.int (J (aI h (a + 2) x3))), some (.int (J (aI h (a + 3) x3)))] [] h14 Q) ∧ (¬ lcm r15 (0 : Int64) = 0 → Ex X PG d 93 0 [some (.ref a), some (.int (J x2)), some (.int (J (aI h (a + 2) x3))), some (.ref 246), none, none, none, none] [] h14 (fun v18 h19 => ∃ r20, v18 = some (.long r20) ∧ SH h14 h19 ∧ Q (some (.long r20)) h19))))))))) :
    Ex X PG (d + 1) 92 4 [some (.ref a), some (.ref 246), some (.int (J x2)), some (.int (J x3)), l4, l5] [] h Q := by
  refine wpx_ok (cut := [4]) 31 d 92 4 _ _ _ _ ?_
  show hs h a = (0, 4) ∧ (((hF h a 5) ≤ (J x3) → Q (some (.long (0 : Int64))) h) ∧ (¬ ((hF h a 5) ≤ (J x3)) → hs h a = (0, 4) ∧ ∃ q4, hR h a 1 = some q4 ∧ (hs h q4).1 = 1 ∧ ix (J x3) (hs h q4).2 ∧ hs h a = (0, 4) ∧ ∃ q6, hR h a 2 = some q6 ∧ (hs h q6).1 = 1 ∧ ix (J x3) (hs h q6).2 ∧ (((hI h q4 (Int32.toNatClampNeg (J x3))) = (hI h q6 (Int32.toNatClampNeg (J x3))) → hs h a = (0, 4) ∧ Ex X PG d 93 0 [some (.ref a), some (.int (J x2)), some (.int (hI h q4 (Int32.toNatClampNeg (J x3)))), some (.ref 246), none, none, none, none] [] h (fun v9 h10 => ∃ r11, v9 = some (.long r11) ∧ Q (some (.long r11)) h10)) ∧ (¬ ((hI h q4 (Int32.toNatClampNeg (J x3))) = (hI h q6 (Int32.toNatClampNeg (J x3)))) → hs h a = (0, 4) ∧ Ex X PG d 93 0 [some (.ref a), some (.int (hI h q4 (Int32.toNatClampNeg (J x3)))), some (.int (hI h q6 (Int32.toNatClampNeg (J x3)))), some (.ref 246), none, none, none, none] [] h (fun v13 h14 => ∃ r15, v13 = some (.long r15) ∧ (((lg_cmp r15 (0 : Int64)) = (J 0) → Ex X PG (d + 1) 92 4 [some (.ref a), some (.ref 246), some (.int (hI h q6 (Int32.toNatClampNeg (J x3)))), some (.int ((J x3) + (J 1))), some (.int (hI h q4 (Int32.toNatClampNeg (J x3)))), some (.int (hI h q6 (Int32.toNatClampNeg (J x3))))] [] h14 Q) ∧ (¬ ((lg_cmp r15 (0 : Int64)) = (J 0)) → hs h14 a = (0, 4) ∧ Ex X PG d 93 0 [some (.ref a), some (.int (J x2)), some (.int (hI h q4 (Int32.toNatClampNeg (J x3)))), some (.ref 246), none, none, none, none] [] h14 (fun v18 h19 => ∃ r20, v18 = some (.long r20) ∧ Q (some (.long r20)) h19))))))))
  try simp only [aI_wAL, fI_wAL, aL_wA, aL_wF, aI_wA_ne, aI_wF_ne, fI_wA_ne, fI_wF_ne, fI_wF_nk, aL_wAL_ne, J_sameA, J_sameF, aL_same, Nat.add_left_cancel_iff, Nat.add_eq_left, Nat.left_eq_add, not_false_eq_true, Nat.reduceEqDiff, Nat.reduceAdd, J_add, J_sub, J_mul, J_neg, J_and, J_or, J_xor, J_shl, J_shr, J_div, J_i2b, J_i2l, J_l2i, J_lcm, J_max, J_min, J_nab, J_nao, rdA, rdF, rdL, wA_fold, wF_fold, wL_fold, wC_fold]
  refine ⟨(rule_0 K_h_0), ?_⟩
  obtain ⟨k3, w⟩ := w
  refine ⟨fun c1 => ?_, fun c1 => ?_⟩
  · have t2 : fI h a 5 ≤ x3 := ((Jle (rg_toInt _) k3).mp c1)
    replace w := w.1 t2
    exact w
  · have t2 : ¬ fI h a 5 ≤ x3 := (fun e => c1 ((Jle (rg_toInt _) k3).mpr e))
    replace w := w.2 t2
    refine ⟨(rule_0 K_h_0), _, (rule_6 K_h_0), ?_⟩
    obtain ⟨k5, w⟩ := w
    refine ⟨congrArg Prod.fst (rule_2 K_h_0), ixs (rule_2 K_h_0) k5 (by decide), ?_⟩
    refine ⟨(rule_0 K_h_0), _, (rule_7 K_h_0), ?_⟩
    refine ⟨congrArg Prod.fst (rule_3 K_h_0), ixs (rule_3 K_h_0) k5 (by decide), ?_⟩
    refine ⟨fun c7 => ?_, fun c7 => ?_⟩
    · have t8 : aI h (a + 2) x3 = aI h (a + 3) x3 := ((Jeq (rg_toInt _) (rg_toInt _)).mp c7)
      replace w := w.1 t8
      refine ⟨(rule_0 K_h_0), ?_⟩
      refine Ex.mono w (Nat.le_refl _) ?_
      rintro v9 h10 ⟨r11, rfl, s12, w⟩
      refine ⟨_, rfl, ?_⟩
      have C_h10 := Lay_SH s12 C_h
      have K_h10_0 := RuleAt_SH s12 K_h_0
      try simp only [aI_wAL, fI_wAL, aL_wA, aL_wF, aI_wA_ne, aI_wF_ne, fI_wA_ne, fI_wF_ne, fI_wF_nk, aL_wAL_ne, J_sameA, J_sameF, aL_same, Nat.add_left_cancel_iff, Nat.add_eq_left, Nat.left_eq_add, not_false_eq_true, Nat.reduceEqDiff, Nat.reduceAdd, J_add, J_sub, J_mul, J_neg, J_and, J_or, J_xor, J_shl, J_shr, J_div, J_i2b, J_i2l, J_l2i, J_lcm, J_max, J_min, J_nab, J_nao, rdA, rdF, rdL, wA_fold, wF_fold, wL_fold, wC_fold]
      exact w
    · have t8 : ¬ aI h (a + 2) x3 = aI h (a + 3) x3 := (fun e => c7 ((Jeq (rg_toInt _) (rg_toInt _)).mpr e))
      replace w := w.2 t8
      refine ⟨(rule_0 K_h_0), ?_⟩
      refine Ex.mono w (Nat.le_refl _) ?_
      rintro v13 h14 ⟨r15, rfl, s22, w⟩
      refine ⟨_, rfl, ?_⟩
      have C_h14 := Lay_SH s22 C_h
      have K_h14_0 := RuleAt_SH s22 K_h_0
      try simp only [aI_wAL, fI_wAL, aL_wA, aL_wF, aI_wA_ne, aI_wF_ne, fI_wA_ne, fI_wF_ne, fI_wF_nk, aL_wAL_ne, J_sameA, J_sameF, aL_same, Nat.add_left_cancel_iff, Nat.add_eq_left, Nat.left_eq_add, not_false_eq_true, Nat.reduceEqDiff, Nat.reduceAdd, J_add, J_sub, J_mul, J_neg, J_and, J_or, J_xor, J_shl, J_shr, J_div, J_i2b, J_i2l, J_l2i, J_lcm, J_max, J_min, J_nab, J_nao, rdA, rdF, rdL, wA_fold, wF_fold, wL_fold, wC_fold]
      refine ⟨fun c16 => ?_, fun c16 => ?_⟩
      · have t17 : lcm r15 (0 : Int64) = 0 := ((Jeq (rg_toInt _) (by decide)).mp c16)
        replace w := w.1 t17
        exact w
      · have t17 : ¬ lcm r15 (0 : Int64) = 0 := (fun e => c16 ((Jeq (rg_toInt _) (by decide)).mpr e))
        replace w := w.2 t17
        refine ⟨(rule_0 K_h14_0), ?_⟩
        refine Ex.mono w (Nat.le_refl _) ?_
        rintro v18 h19 ⟨r20, rfl, s21, w⟩
        refine ⟨_, rfl, ?_⟩
        have C_h19 := Lay_SH s21 C_h14
        have K_h19_0 := RuleAt_SH s21 K_h14_0
        try simp only [aI_wAL, fI_wAL, aL_wA, aL_wF, aI_wA_ne, aI_wF_ne, fI_wA_ne, fI_wF_ne, fI_wF_nk, aL_wAL_ne, J_sameA, J_sameF, aL_same, Nat.add_left_cancel_iff, Nat.add_eq_left, Nat.left_eq_add, not_false_eq_true, Nat.reduceEqDiff, Nat.reduceAdd, J_add, J_sub, J_mul, J_neg, J_and, J_or, J_xor, J_shl, J_shr, J_div, J_i2b, J_i2l, J_l2i, J_lcm, J_max, J_min, J_nab, J_nao, rdA, rdF, rdL, wA_fold, wF_fold, wL_fold, wC_fold]
        exact w
theorem m92 {X : Cst} {d : Nat} {a : Nat} {R : Ru} {h : AH} {Q : Post} (C : Lay h) (K : RuleAt h a) (hd : 3 ≤ d) (O : RuleOK R) (P : ClsRule h a R) (h6 : a + 4 < 246 ∨ 246 < a)
    (k : ∀ h', SH h h' → Fr (fun c _ => c = a + 4) h h' → Q (some (.long (wl R (fun k => i2l (aI h 246 k))))) h') : Ex X PG d 92 0 [some (.ref a), some (.ref 246), none, none, none, none] [] h Q := by
  obtain ⟨d, rfl⟩ : ∃ e, d = e + 1 := ⟨d - 1, by omega⟩
  have b0 := O.1
  have lp : ∀ (n : Nat) (c : Int) (h' : AH) (l4 l5 : Option Value), Fr (fun c _ => c = a + 4) h h' → nC R - c = n → 0 ≤ c → wlr R (fun k => i2l (aI h 246 k)) n c = wl R (fun k => i2l (aI h 246 k)) → Ex X PG (d + 1) 92 4 [some (.ref a), some (.ref 246), some (.int (J (tb R c))), some (.int (J c)), l4, l5] [] h' Q := by
    intro n
    induction n with
    | zero =>
      intro c h' l4 l5 F h1 h2 e
      have P' := P.fr F (fun c k z => by omega)
      refine r92_4 (F.C C) (RuleAt_SH F.1 K) ?_
      rw [P'.1]
      refine ⟨by omega, fun _ => ?_, fun z => absurd (by omega) z⟩
      have := k h' F.1 F
      rw [← e] at this
      exact this
    | succ n ih =>
      intro c h' l4 l5 F h1 h2 e
      have P' := P.fr F (fun c k z => by omega)
      have q := O.2 c h2 (by omega)
      have r := P'.2 c h2 (by omega)
      have w6 : aI h' 246 = aI h 246 := F.a 246 (fun k z => by omega)
      unfold wlr at e
      have sm : ∀ (h' : AH), Fr (fun c _ => c = a + 4) h h' → (sE R c = tE R c ∨ val R (fun k => i2l (aI h 246 k)) (sE R c) (tE R c) = 1) → ∀ Q', (∀ h'', Fr (fun c _ => c = a + 4) h h'' → Q' (some (.long (wl R (fun k => i2l (aI h 246 k))))) h'') → Ex X PG d 93 0 [some (.ref a), some (.int (J (tb R c))), some (.int (J (sE R c))), some (.ref 246), none, none, none, none] [] h' Q' := by
        intro h' F o Q' k
        have P' := P.fr F (fun c k z => by omega)
        have w6 : aI h' 246 = aI h 246 := F.a 246 (fun k z => by omega)
        rw [if_pos o] at e
        refine m93 (R := R) (T := false) (F.C C) (RuleAt_SH F.1 K) (by omega) q.1.1 q.1.2.1 (by omega) (q.2.2.2.sub (Int.le_refl _) q.1.2.2.1) (fun j x y => (P'.2 c h2 (by omega)).2.2 j x (by omega)) h6 q.2.1.1 q.2.1.2 (fun h'' F' => ?_)
        rw [w6, e]
        exact k h'' (F.tr F')
      refine r92_4 (F.C C) (RuleAt_SH F.1 K) ?_
      rw [P'.1, r.1, r.2.1]
      refine ⟨by omega, fun z => absurd z (by omega), fun _ => ⟨by omega, fun z => ?_, fun z => ?_⟩⟩
      · exact sm h' F (Or.inl z) _ (fun h'' F' => ⟨_, rfl, ⟨F'.1.1.trans F.1.1.symm, F'.1.2.trans F.1.2.symm⟩, k h'' F'.1 F'⟩)
      · refine m93 (R := R) (T := true) (F.C C) (RuleAt_SH F.1 K) (by omega) (by omega) q.1.2.2.1 (by omega) (q.2.2.2.sub q.1.2.1 (Int.le_refl _)) (fun j x y => r.2.2 j (by omega) y) h6 (q.2.2.1 z).1 (q.2.2.1 z).2 (fun h22 F2 => ?_)
        refine ⟨_, rfl, F2.1, ?_⟩
        rw [lcm_eq0, w6]
        have v01 := val_01 (R := R) (w := fun k => i2l (aI h 246 k)) (q.2.2.1 z).1
        refine ⟨fun v => ?_, fun v => ?_⟩
        · have nt : tE R c = tb R (c + 1) := by unfold tb; rw [if_neg (by omega), show c + 1 - 1 = c by omega]
          rw [nt]
          refine ih (c + 1) h22 _ _ (F.tr F2) (by omega) (by omega) ?_
          rw [if_neg (fun y => y.elim z (fun y => by rw [v] at y; exact absurd y (by decide)))] at e
          exact e
        · exact sm h22 (F.tr F2) (Or.inr (v01.resolve_left v)) _ (fun h'' F' => ⟨_, rfl, ⟨F'.1.1.trans (F.tr F2).1.1.symm, F'.1.2.trans (F.tr F2).1.2.symm⟩, k h'' F'.1 F'⟩)
  refine r92_0 C K ?_
  have := lp (nC R).toNat 0 h none none Fr.rf (by omega) (by omega) rfl
  exact this
-- OutwardDoors$Mover.tellWords(LOutwardDoors$Plan;LOutwardDoors$World;I)V at 0
set_option maxRecDepth 20000 in
set_option maxHeartbeats 4000000 in
theorem r91_0 {X : Cst} {d : Nat} {a : Nat} {b : Nat} {x3 : Int} {S : Int → Int} {h : AH} {Q : Post} (C_h : Lay h) (K_h_0 : PlanAt h a) (K_h_1 : WorldAt h b) (apa : a = 4 ∨ a = 4 ∨ a = 53 ∨ 281 ≤ a) (apb : b = 64 ∨ b = 114) (hd : 2 ≤ d)
  (w : (PlanRep h a S) ∧ (0 ≤ (fI h b 5) ∧ (fI h b 5) < 2147483648) ∧ (0 ≤ x3 ∧ x3 < 4) ∧ Ex X PG (d + 1) 91 27 [some (.ref 241), some (.ref a), some (.ref b), some (.int (J x3)), some (.int (J (bI (nightM S (fI h b 5))))), some (.int (J (aI h (b + 1) x3))), some (.int (J 0)), some (.int (J 0)), some (.int (J 0))] [] h Q) :
    Ex X PG (d + 1) 91 0 [some (.ref 241), some (.ref a), some (.ref b), some (.int (J x3)), none, none, none, none, none] [] h Q := by
  refine wpx_ok (cut := [27]) 16 d 91 0 _ _ _ _ ?_
  show hs h b = (0, 9) ∧ hs h a = (0, 2) ∧ Ex X PG d 77 0 [some (.ref a), some (.int (hF h b 5)), none] [] h (fun v1 h2 => ∃ r3, v1 = some (.int r3) ∧ hs h2 b = (0, 9) ∧ ∃ q6, hR h2 b 0 = some q6 ∧ (hs h2 q6).1 = 1 ∧ ix (J x3) (hs h2 q6).2 ∧ Ex X PG (d + 1) 91 27 [some (.ref 241), some (.ref a), some (.ref b), some (.int (J x3)), some (.int r3), some (.int (hI h2 q6 (Int32.toNatClampNeg (J x3)))), some (.int (J 0)), some (.int (J 0)), some (.int (J 0))] [] h2 Q)
  try simp only [aI_wAL, fI_wAL, aL_wA, aL_wF, aI_wA_ne, aI_wF_ne, fI_wA_ne, fI_wF_ne, fI_wF_nk, aL_wAL_ne, J_sameA, J_sameF, aL_same, Nat.add_left_cancel_iff, Nat.add_eq_left, Nat.left_eq_add, not_false_eq_true, Nat.reduceEqDiff, Nat.reduceAdd, J_add, J_sub, J_mul, J_neg, J_and, J_or, J_xor, J_shl, J_shr, J_div, J_i2b, J_i2l, J_l2i, J_lcm, J_max, J_min, J_nab, J_nao, rdA, rdF, rdL, wA_fold, wF_fold, wL_fold, wC_fold]
  refine ⟨(world_0 K_h_1), ?_⟩
  refine ⟨(plan_0 K_h_0), ?_⟩
  obtain ⟨k4, w⟩ := w
  obtain ⟨k5, w⟩ := w
  refine m77 (h := h) (a := a) (m := (fI h b 5)) (S := S) C_h K_h_0 (by omega) k4 k5 ?_
  refine ⟨_, rfl, ?_⟩
  try simp only [aI_wAL, fI_wAL, aL_wA, aL_wF, aI_wA_ne, aI_wF_ne, fI_wA_ne, fI_wF_ne, fI_wF_nk, aL_wAL_ne, J_sameA, J_sameF, aL_same, Nat.add_left_cancel_iff, Nat.add_eq_left, Nat.left_eq_add, not_false_eq_true, Nat.reduceEqDiff, Nat.reduceAdd, J_add, J_sub, J_mul, J_neg, J_and, J_or, J_xor, J_shl, J_shr, J_div, J_i2b, J_i2l, J_l2i, J_lcm, J_max, J_min, J_nab, J_nao, rdA, rdF, rdL, wA_fold, wF_fold, wL_fold, wC_fold]
  refine ⟨(world_0 K_h_1), _, (world_6 K_h_1), ?_⟩
  obtain ⟨k7, w⟩ := w
  refine ⟨congrArg Prod.fst (world_1 K_h_1), ixs (world_1 K_h_1) k7 (by decide), ?_⟩
  exact w
-- OutwardDoors$Mover.tellWords(LOutwardDoors$Plan;LOutwardDoors$World;I)V at 27
set_option maxRecDepth 20000 in
set_option maxHeartbeats 4000000 in
theorem r91_27 {X : Cst} {d : Nat} {a : Nat} {b : Nat} {x3 : Int} {x4 : Int} {x5 : Int} {x6 : Int} {x7 : Int} {x8 : Int} {h : AH} {Q : Post} (C_h : Lay h) (K_h_0 : PlanAt h a) (K_h_1 : WorldAt h b) (apa : a = 4 ∨ a = 4 ∨ a = 53 ∨ 281 ≤ a) (apb : b = 64 ∨ b = 114) (hd : 2 ≤ d)
  (w : (-2147483648 ≤ x8 ∧ x8 < 2147483648) ∧ ((fI h a 2 ≤ x8 → (0 ≤ x5 ∧ x5 < 8) ∧ (0 ≤ x3 ∧ x3 < 4) ∧ (0 ≤ (x4 * 8 + x5) * 8 + (aI h (b + 2) x3) ∧ (x4 * 8 + x5) * 8 + (aI h (b + 2) x3) < 128) ∧ Q none (wA (wA (wA (wA (wA (wA (wA (wA (wA (wA (wA (wA h 246 0 x3) 246 1 x5) 246 2 (aI h (a + 1) x5)) 246 3 (aI h (b + 2) x3)) 246 4 (aI h (a + 10) ((x4 * 8 + x5) * 8 + (aI h (b + 2) x3)))) 246 5 (aI h (a + 6) x3)) 246 6 (fI h b 5)) 246 7 x4) 246 8 x6) 246 9 (aI h (b + 3) x3)) 246 10 (aI h (b + 4) x3)) 246 11 x7)) ∧ (¬ fI h a 2 ≤ x8 → (-2147483648 ≤ x3 ∧ x3 < 2147483648) ∧ ((x8 = x3 → Ex X PG (d + 1) 91 27 [some (.ref 241), some (.ref a), some (.ref b), some (.int (J x3)), some (.int (J x4)), some (.int (J x5)), some (.int (J x6)), some (.int (J x7)), some (.int (J (x8 + 1)))] [] h Q) ∧ (¬ x8 = x3 → (0 ≤ x8 ∧ x8 < 4) ∧ (-2147483648 ≤ x5 ∧ x5 < 2147483648) ∧ ((¬ aI h (b + 1) x8 = x5 → ((¬ aI h 242 x8 = x5 → Ex X PG (d + 1) 91 27 [some (.ref 241), some (.ref a), some (.ref b), some (.int (J x3)), some (.int (J x4)), some (.int (J x5)), some (.int (J x6)), some (.int (J x7)), some (.int (J (x8 + 1)))] [] h Q) ∧ (aI h 242 x8 = x5 → (0 ≤ aI h (b + 1) x8 ∧ aI h (b + 1) x8 < 8) ∧ (0 ≤ x5 ∧ x5 < 8) ∧ ((aI h (a + 1) (aI h (b + 1) x8) ≤ aI h (a + 1) x5 → Ex X PG (d + 1) 91 27 [some (.ref 241), some (.ref a), some (.ref b), some (.int (J x3)), some (.int (J x4)), some (.int (J x5)), some (.int (J x6)), some (.int (J x7)), some (.int (J (x8 + 1)))] [] h Q) ∧ (¬ aI h (a + 1) (aI h (b + 1) x8) ≤ aI h (a + 1) x5 → Ex X PG (d + 1) 91 27 [some (.ref 241), some (.ref a), some (.ref b), some (.int (J x3)), some (.int (J x4)), some (.int (J x5)), some (.int (J x6)), some (.int (J (x7 + 1))), some (.int (J (x8 + 1)))] [] h Q))))) ∧ (aI h (b + 1) x8 = x5 → ((¬ aI h 242 x8 = x5 → Ex X PG (d + 1) 91 27 [some (.ref 241), some (.ref a), some (.ref b), some (.int (J x3)), some (.int (J x4)), some (.int (J x5)), some (.int (J (x6 + 1))), some (.int (J x7)), some (.int (J (x8 + 1)))] [] h Q) ∧ (aI h 242 x8 = x5 → (0 ≤ aI h (b + 1) x8 ∧ aI h (b + 1) x8 < 8) ∧ (0 ≤ x5 ∧ x5 < 8) ∧ ((aI h (a + 1) (aI h (b + 1) x8) ≤ aI h (a + 1) x5 → Ex X PG (d + 1) 91 27 [some (.ref 241), some (.ref a), some (.ref b), some (.int (J x3)), some (.int (J x4)), some (.int (J x5)), some (.int (J (x6 + 1))), some (.int (J x7)), some (.int (J (x8 + 1)))] [] h Q) ∧ (¬ aI h (a + 1) (aI h (b + 1) x8) ≤ aI h (a + 1) x5 → Ex X PG (d + 1) 91 27 [some (.ref 241), some (.ref a), some (.ref b), some (.int (J x3)), some (.int (J x4)), some (.int (J x5)), some (.int (J (x6 + 1))), some (.int (J (x7 + 1))), some (.int (J (x8 + 1)))] [] h Q))))))))))) :
    Ex X PG (d + 1) 91 27 [some (.ref 241), some (.ref a), some (.ref b), some (.int (J x3)), some (.int (J x4)), some (.int (J x5)), some (.int (J x6)), some (.int (J x7)), some (.int (J x8))] [] h Q := by
  refine wpx_ok (cut := [27]) 88 d 91 27 _ _ _ _ ?_
  show hs h a = (0, 2) ∧ (((hF h a 2) ≤ (J x8) → hs h 241 = (0, 1) ∧ ∃ q4, hR h 241 4 = some q4 ∧ (hs h q4).1 = 1 ∧ ix (J 0) (hs h q4).2 ∧ hs (wI h q4 (Int32.toNatClampNeg (J 0)) (J x3)) 241 = (0, 1) ∧ ∃ q5, hR (wI h q4 (Int32.toNatClampNeg (J 0)) (J x3)) 241 4 = some q5 ∧ (hs (wI h q4 (Int32.toNatClampNeg (J 0)) (J x3)) q5).1 = 1 ∧ ix (J 1) (hs (wI h q4 (Int32.toNatClampNeg (J 0)) (J x3)) q5).2 ∧ hs (wI (wI h q4 (Int32.toNatClampNeg (J 0)) (J x3)) q5 (Int32.toNatClampNeg (J 1)) (J x5)) 241 = (0, 1) ∧ ∃ q6, hR (wI (wI h q4 (Int32.toNatClampNeg (J 0)) (J x3)) q5 (Int32.toNatClampNeg (J 1)) (J x5)) 241 4 = some q6 ∧ hs (wI (wI h q4 (Int32.toNatClampNeg (J 0)) (J x3)) q5 (Int32.toNatClampNeg (J 1)) (J x5)) a = (0, 2) ∧ ∃ q7, hR (wI (wI h q4 (Int32.toNatClampNeg (J 0)) (J x3)) q5 (Int32.toNatClampNeg (J 1)) (J x5)) a 6 = some q7 ∧ (hs (wI (wI h q4 (Int32.toNatClampNeg (J 0)) (J x3)) q5 (Int32.toNatClampNeg (J 1)) (J x5)) q7).1 = 1 ∧ ix (J x5) (hs (wI (wI h q4 (Int32.toNatClampNeg (J 0)) (J x3)) q5 (Int32.toNatClampNeg (J 1)) (J x5)) q7).2 ∧ (hs (wI (wI h q4 (Int32.toNatClampNeg (J 0)) (J x3)) q5 (Int32.toNatClampNeg (J 1)) (J x5)) q6).1 = 1 ∧ ix (J 2) (hs (wI (wI h q4 (Int32.toNatClampNeg (J 0)) (J x3)) q5 (Int32.toNatClampNeg (J 1)) (J x5)) q6).2 ∧ hs (wI (wI (wI h q4 (Int32.toNatClampNeg (J 0)) (J x3)) q5 (Int32.toNatClampNeg (J 1)) (J x5)) q6 (Int32.toNatClampNeg (J 2)) (hI (wI (wI h q4 (Int32.toNatClampNeg (J 0)) (J x3)) q5 (Int32.toNatClampNeg (J 1)) (J x5)) q7 (Int32.toNatClampNeg (J x5)))) 241 = (0, 1) ∧ ∃ q9, hR (wI (wI (wI h q4 (Int32.toNatClampNeg (J 0)) (J x3)) q5 (Int32.toNatClampNeg (J 1)) (J x5)) q6 (Int32.toNatClampNeg (J 2)) (hI (wI (wI h q4 (Int32.toNatClampNeg (J 0)) (J x3)) q5 (Int32.toNatClampNeg (J 1)) (J x5)) q7 (Int32.toNatClampNeg (J x5)))) 241 4 = some q9 ∧ hs (wI (wI (wI h q4 (Int32.toNatClampNeg (J 0)) (J x3)) q5 (Int32.toNatClampNeg (J 1)) (J x5)) q6 (Int32.toNatClampNeg (J 2)) (hI (wI (wI h q4 (Int32.toNatClampNeg (J 0)) (J x3)) q5 (Int32.toNatClampNeg (J 1)) (J x5)) q7 (Int32.toNatClampNeg (J x5)))) b = (0, 9) ∧ ∃ q10, hR (wI (wI (wI h q4 (Int32.toNatClampNeg (J 0)) (J x3)) q5 (Int32.toNatClampNeg (J 1)) (J x5)) q6 (Int32.toNatClampNeg (J 2)) (hI (wI (wI h q4 (Int32.toNatClampNeg (J 0)) (J x3)) q5 (Int32.toNatClampNeg (J 1)) (J x5)) q7 (Int32.toNatClampNeg (J x5)))) b 1 = some q10 ∧ (hs (wI (wI (wI h q4 (Int32.toNatClampNeg (J 0)) (J x3)) q5 (Int32.toNatClampNeg (J 1)) (J x5)) q6 (Int32.toNatClampNeg (J 2)) (hI (wI (wI h q4 (Int32.toNatClampNeg (J 0)) (J x3)) q5 (Int32.toNatClampNeg (J 1)) (J x5)) q7 (Int32.toNatClampNeg (J x5)))) q10).1 = 1 ∧ ix (J x3) (hs (wI (wI (wI h q4 (Int32.toNatClampNeg (J 0)) (J x3)) q5 (Int32.toNatClampNeg (J 1)) (J x5)) q6 (Int32.toNatClampNeg (J 2)) (hI (wI (wI h q4 (Int32.toNatClampNeg (J 0)) (J x3)) q5 (Int32.toNatClampNeg (J 1)) (J x5)) q7 (Int32.toNatClampNeg (J x5)))) q10).2 ∧ (hs (wI (wI (wI h q4 (Int32.toNatClampNeg (J 0)) (J x3)) q5 (Int32.toNatClampNeg (J 1)) (J x5)) q6 (Int32.toNatClampNeg (J 2)) (hI (wI (wI h q4 (Int32.toNatClampNeg (J 0)) (J x3)) q5 (Int32.toNatClampNeg (J 1)) (J x5)) q7 (Int32.toNatClampNeg (J x5)))) q9).1 = 1 ∧ ix (J 3) (hs (wI (wI (wI h q4 (Int32.toNatClampNeg (J 0)) (J x3)) q5 (Int32.toNatClampNeg (J 1)) (J x5)) q6 (Int32.toNatClampNeg (J 2)) (hI (wI (wI h q4 (Int32.toNatClampNeg (J 0)) (J x3)) q5 (Int32.toNatClampNeg (J 1)) (J x5)) q7 (Int32.toNatClampNeg (J x5)))) q9).2 ∧ hs (wI (wI (wI (wI h q4 (Int32.toNatClampNeg (J 0)) (J x3)) q5 (Int32.toNatClampNeg (J 1)) (J x5)) q6 (Int32.toNatClampNeg (J 2)) (hI (wI (wI h q4 (Int32.toNatClampNeg (J 0)) (J x3)) q5 (Int32.toNatClampNeg (J 1)) (J x5)) q7 (Int32.toNatClampNeg (J x5)))) q9 (Int32.toNatClampNeg (J 3)) (hI (wI (wI (wI h q4 (Int32.toNatClampNeg (J 0)) (J x3)) q5 (Int32.toNatClampNeg (J 1)) (J x5)) q6 (Int32.toNatClampNeg (J 2)) (hI (wI (wI h q4 (Int32.toNatClampNeg (J 0)) (J x3)) q5 (Int32.toNatClampNeg (J 1)) (J x5)) q7 (Int32.toNatClampNeg (J x5)))) q10 (Int32.toNatClampNeg (J x3)))) 241 = (0, 1) ∧ ∃ q12, hR (wI (wI (wI (wI h q4 (Int32.toNatClampNeg (J 0)) (J x3)) q5 (Int32.toNatClampNeg (J 1)) (J x5)) q6 (Int32.toNatClampNeg (J 2)) (hI (wI (wI h q4 (Int32.toNatClampNeg (J 0)) (J x3)) q5 (Int32.toNatClampNeg (J 1)) (J x5)) q7 (Int32.toNatClampNeg (J x5)))) q9 (Int32.toNatClampNeg (J 3)) (hI (wI (wI (wI h q4 (Int32.toNatClampNeg (J 0)) (J x3)) q5 (Int32.toNatClampNeg (J 1)) (J x5)) q6 (Int32.toNatClampNeg (J 2)) (hI (wI (wI h q4 (Int32.toNatClampNeg (J 0)) (J x3)) q5 (Int32.toNatClampNeg (J 1)) (J x5)) q7 (Int32.toNatClampNeg (J x5)))) q10 (Int32.toNatClampNeg (J x3)))) 241 4 = some q12 ∧ hs (wI (wI (wI (wI h q4 (Int32.toNatClampNeg (J 0)) (J x3)) q5 (Int32.toNatClampNeg (J 1)) (J x5)) q6 (Int32.toNatClampNeg (J 2)) (hI (wI (wI h q4 (Int32.toNatClampNeg (J 0)) (J x3)) q5 (Int32.toNatClampNeg (J 1)) (J x5)) q7 (Int32.toNatClampNeg (J x5)))) q9 (Int32.toNatClampNeg (J 3)) (hI (wI (wI (wI h q4 (Int32.toNatClampNeg (J 0)) (J x3)) q5 (Int32.toNatClampNeg (J 1)) (J x5)) q6 (Int32.toNatClampNeg (J 2)) (hI (wI (wI h q4 (Int32.toNatClampNeg (J 0)) (J x3)) q5 (Int32.toNatClampNeg (J 1)) (J x5)) q7 (Int32.toNatClampNeg (J x5)))) q10 (Int32.toNatClampNeg (J x3)))) b = (0, 9) ∧ ∃ q13, hR (wI (wI (wI (wI h q4 (Int32.toNatClampNeg (J 0)) (J x3)) q5 (Int32.toNatClampNeg (J 1)) (J x5)) q6 (Int32.toNatClampNeg (J 2)) (hI (wI (wI h q4 (Int32.toNatClampNeg (J 0)) (J x3)) q5 (Int32.toNatClampNeg (J 1)) (J x5)) q7 (Int32.toNatClampNeg (J x5)))) q9 (Int32.toNatClampNeg (J 3)) (hI (wI (wI (wI h q4 (Int32.toNatClampNeg (J 0)) (J x3)) q5 (Int32.toNatClampNeg (J 1)) (J x5)) q6 (Int32.toNatClampNeg (J 2)) (hI (wI (wI h q4 (Int32.toNatClampNeg (J 0)) (J x3)) q5 (Int32.toNatClampNeg (J 1)) (J x5)) q7 (Int32.toNatClampNeg (J x5)))) q10 (Int32.toNatClampNeg (J x3)))) b 1 = some q13 ∧ (hs (wI (wI (wI (wI h q4 (Int32.toNatClampNeg (J 0)) (J x3)) q5 (Int32.toNatClampNeg (J 1)) (J x5)) q6 (Int32.toNatClampNeg (J 2)) (hI (wI (wI h q4 (Int32.toNatClampNeg (J 0)) (J x3)) q5 (Int32.toNatClampNeg (J 1)) (J x5)) q7 (Int32.toNatClampNeg (J x5)))) q9 (Int32.toNatClampNeg (J 3)) (hI (wI (wI (wI h q4 (Int32.toNatClampNeg (J 0)) (J x3)) q5 (Int32.toNatClampNeg (J 1)) (J x5)) q6 (Int32.toNatClampNeg (J 2)) (hI (wI (wI h q4 (Int32.toNatClampNeg (J 0)) (J x3)) q5 (Int32.toNatClampNeg (J 1)) (J x5)) q7 (Int32.toNatClampNeg (J x5)))) q10 (Int32.toNatClampNeg (J x3)))) q13).1 = 1 ∧ ix (J x3) (hs (wI (wI (wI (wI h q4 (Int32.toNatClampNeg (J 0)) (J x3)) q5 (Int32.toNatClampNeg (J 1)) (J x5)) q6 (Int32.toNatClampNeg (J 2)) (hI (wI (wI h q4 (Int32.toNatClampNeg (J 0)) (J x3)) q5 (Int32.toNatClampNeg (J 1)) (J x5)) q7 (Int32.toNatClampNeg (J x5)))) q9 (Int32.toNatClampNeg (J 3)) (hI (wI (wI (wI h q4 (Int32.toNatClampNeg (J 0)) (J x3)) q5 (Int32.toNatClampNeg (J 1)) (J x5)) q6 (Int32.toNatClampNeg (J 2)) (hI (wI (wI h q4 (Int32.toNatClampNeg (J 0)) (J x3)) q5 (Int32.toNatClampNeg (J 1)) (J x5)) q7 (Int32.toNatClampNeg (J x5)))) q10 (Int32.toNatClampNeg (J x3)))) q13).2 ∧ hs (wI (wI (wI (wI h q4 (Int32.toNatClampNeg (J 0)) (J x3)) q5 (Int32.toNatClampNeg (J 1)) (J x5)) q6 (Int32.toNatClampNeg (J 2)) (hI (wI (wI h q4 (Int32.toNatClampNeg (J 0)) (J x3)) q5 (Int32.toNatClampNeg (J 1)) (J x5)) q7 (Int32.toNatClampNeg (J x5)))) q9 (Int32.toNatClampNeg (J 3)) (hI (wI (wI (wI h q4 (Int32.toNatClampNeg (J 0)) (J x3)) q5 (Int32.toNatClampNeg (J 1)) (J x5)) q6 (Int32.toNatClampNeg (J 2)) (hI (wI (wI h q4 (Int32.toNatClampNeg (J 0)) (J x3)) q5 (Int32.toNatClampNeg (J 1)) (J x5)) q7 (Int32.toNatClampNeg (J x5)))) q10 (Int32.toNatClampNeg (J x3)))) a = (0, 2) ∧ Ex X PG d 54 0 [some (.ref a), some (.int (J x4)), some (.int (J x5)), some (.int (hI (wI (wI (wI (wI h q4 (Int32.toNatClampNeg (J 0)) (J x3)) q5 (Int32.toNatClampNeg (J 1)) (J x5)) q6 (Int32.toNatClampNeg (J 2)) (hI (wI (wI h q4 (Int32.toNatClampNeg (J 0)) (J x3)) q5 (Int32.toNatClampNeg (J 1)) (J x5)) q7 (Int32.toNatClampNeg (J x5)))) q9 (Int32.toNatClampNeg (J 3)) (hI (wI (wI (wI h q4 (Int32.toNatClampNeg (J 0)) (J x3)) q5 (Int32.toNatClampNeg (J 1)) (J x5)) q6 (Int32.toNatClampNeg (J 2)) (hI (wI (wI h q4 (Int32.toNatClampNeg (J 0)) (J x3)) q5 (Int32.toNatClampNeg (J 1)) (J x5)) q7 (Int32.toNatClampNeg (J x5)))) q10 (Int32.toNatClampNeg (J x3)))) q13 (Int32.toNatClampNeg (J x3))))] [] (wI (wI (wI (wI h q4 (Int32.toNatClampNeg (J 0)) (J x3)) q5 (Int32.toNatClampNeg (J 1)) (J x5)) q6 (Int32.toNatClampNeg (J 2)) (hI (wI (wI h q4 (Int32.toNatClampNeg (J 0)) (J x3)) q5 (Int32.toNatClampNeg (J 1)) (J x5)) q7 (Int32.toNatClampNeg (J x5)))) q9 (Int32.toNatClampNeg (J 3)) (hI (wI (wI (wI h q4 (Int32.toNatClampNeg (J 0)) (J x3)) q5 (Int32.toNatClampNeg (J 1)) (J x5)) q6 (Int32.toNatClampNeg (J 2)) (hI (wI (wI h q4 (Int32.toNatClampNeg (J 0)) (J x3)) q5 (Int32.toNatClampNeg (J 1)) (J x5)) q7 (Int32.toNatClampNeg (J x5)))) q10 (Int32.toNatClampNeg (J x3)))) (fun v14 h15 => ∃ r16, v14 = some (.int r16) ∧ (hs h15 q12).1 = 1 ∧ ix (J 4) (hs h15 q12).2 ∧ hs (wI h15 q12 (Int32.toNatClampNeg (J 4)) r16) 241 = (0, 1) ∧ ∃ q18, hR (wI h15 q12 (Int32.toNatClampNeg (J 4)) r16) 241 4 = some q18 ∧ hs (wI h15 q12 (Int32.toNatClampNeg (J 4)) r16) a = (0, 2) ∧ ∃ q19, hR (wI h15 q12 (Int32.toNatClampNeg (J 4)) r16) a 11 = some q19 ∧ (hs (wI h15 q12 (Int32.toNatClampNeg (J 4)) r16) q19).1 = 1 ∧ ix (J x3) (hs (wI h15 q12 (Int32.toNatClampNeg (J 4)) r16) q19).2 ∧ (hs (wI h15 q12 (Int32.toNatClampNeg (J 4)) r16) q18).1 = 1 ∧ ix (J 5) (hs (wI h15 q12 (Int32.toNatClampNeg (J 4)) r16) q18).2 ∧ hs (wI (wI h15 q12 (Int32.toNatClampNeg (J 4)) r16) q18 (Int32.toNatClampNeg (J 5)) (hI (wI h15 q12 (Int32.toNatClampNeg (J 4)) r16) q19 (Int32.toNatClampNeg (J x3)))) 241 = (0, 1) ∧ ∃ q20, hR (wI (wI h15 q12 (Int32.toNatClampNeg (J 4)) r16) q18 (Int32.toNatClampNeg (J 5)) (hI (wI h15 q12 (Int32.toNatClampNeg (J 4)) r16) q19 (Int32.toNatClampNeg (J x3)))) 241 4 = some q20 ∧ hs (wI (wI h15 q12 (Int32.toNatClampNeg (J 4)) r16) q18 (Int32.toNatClampNeg (J 5)) (hI (wI h15 q12 (Int32.toNatClampNeg (J 4)) r16) q19 (Int32.toNatClampNeg (J x3)))) b = (0, 9) ∧ (hs (wI (wI h15 q12 (Int32.toNatClampNeg (J 4)) r16) q18 (Int32.toNatClampNeg (J 5)) (hI (wI h15 q12 (Int32.toNatClampNeg (J 4)) r16) q19 (Int32.toNatClampNeg (J x3)))) q20).1 = 1 ∧ ix (J 6) (hs (wI (wI h15 q12 (Int32.toNatClampNeg (J 4)) r16) q18 (Int32.toNatClampNeg (J 5)) (hI (wI h15 q12 (Int32.toNatClampNeg (J 4)) r16) q19 (Int32.toNatClampNeg (J x3)))) q20).2 ∧ hs (wI (wI (wI h15 q12 (Int32.toNatClampNeg (J 4)) r16) q18 (Int32.toNatClampNeg (J 5)) (hI (wI h15 q12 (Int32.toNatClampNeg (J 4)) r16) q19 (Int32.toNatClampNeg (J x3)))) q20 (Int32.toNatClampNeg (J 6)) (hF (wI (wI h15 q12 (Int32.toNatClampNeg (J 4)) r16) q18 (Int32.toNatClampNeg (J 5)) (hI (wI h15 q12 (Int32.toNatClampNeg (J 4)) r16) q19 (Int32.toNatClampNeg (J x3)))) b 5)) 241 = (0, 1) ∧ ∃ q21, hR (wI (wI (wI h15 q12 (Int32.toNatClampNeg (J 4)) r16) q18 (Int32.toNatClampNeg (J 5)) (hI (wI h15 q12 (Int32.toNatClampNeg (J 4)) r16) q19 (Int32.toNatClampNeg (J x3)))) q20 (Int32.toNatClampNeg (J 6)) (hF (wI (wI h15 q12 (Int32.toNatClampNeg (J 4)) r16) q18 (Int32.toNatClampNeg (J 5)) (hI (wI h15 q12 (Int32.toNatClampNeg (J 4)) r16) q19 (Int32.toNatClampNeg (J x3)))) b 5)) 241 4 = some q21 ∧ (hs (wI (wI (wI h15 q12 (Int32.toNatClampNeg (J 4)) r16) q18 (Int32.toNatClampNeg (J 5)) (hI (wI h15 q12 (Int32.toNatClampNeg (J 4)) r16) q19 (Int32.toNatClampNeg (J x3)))) q20 (Int32.toNatClampNeg (J 6)) (hF (wI (wI h15 q12 (Int32.toNatClampNeg (J 4)) r16) q18 (Int32.toNatClampNeg (J 5)) (hI (wI h15 q12 (Int32.toNatClampNeg (J 4)) r16) q19 (Int32.toNatClampNeg (J x3)))) b 5)) q21).1 = 1 ∧ ix (J 7) (hs (wI (wI (wI h15 q12 (Int32.toNatClampNeg (J 4)) r16) q18 (Int32.toNatClampNeg (J 5)) (hI (wI h15 q12 (Int32.toNatClampNeg (J 4)) r16) q19 (Int32.toNatClampNeg (J x3)))) q20 (Int32.toNatClampNeg (J 6)) (hF (wI (wI h15 q12 (Int32.toNatClampNeg (J 4)) r16) q18 (Int32.toNatClampNeg (J 5)) (hI (wI h15 q12 (Int32.toNatClampNeg (J 4)) r16) q19 (Int32.toNatClampNeg (J x3)))) b 5)) q21).2 ∧ hs (wI (wI (wI (wI h15 q12 (Int32.toNatClampNeg (J 4)) r16) q18 (Int32.toNatClampNeg (J 5)) (hI (wI h15 q12 (Int32.toNatClampNeg (J 4)) r16) q19 (Int32.toNatClampNeg (J x3)))) q20 (Int32.toNatClampNeg (J 6)) (hF (wI (wI h15 q12 (Int32.toNatClampNeg (J 4)) r16) q18 (Int32.toNatClampNeg (J 5)) (hI (wI h15 q12 (Int32.toNatClampNeg (J 4)) r16) q19 (Int32.toNatClampNeg (J x3)))) b 5)) q21 (Int32.toNatClampNeg (J 7)) (J x4)) 241 = (0, 1) ∧ ∃ q22, hR (wI (wI (wI (wI h15 q12 (Int32.toNatClampNeg (J 4)) r16) q18 (Int32.toNatClampNeg (J 5)) (hI (wI h15 q12 (Int32.toNatClampNeg (J 4)) r16) q19 (Int32.toNatClampNeg (J x3)))) q20 (Int32.toNatClampNeg (J 6)) (hF (wI (wI h15 q12 (Int32.toNatClampNeg (J 4)) r16) q18 (Int32.toNatClampNeg (J 5)) (hI (wI h15 q12 (Int32.toNatClampNeg (J 4)) r16) q19 (Int32.toNatClampNeg (J x3)))) b 5)) q21 (Int32.toNatClampNeg (J 7)) (J x4)) 241 4 = some q22 ∧ (hs (wI (wI (wI (wI h15 q12 (Int32.toNatClampNeg (J 4)) r16) q18 (Int32.toNatClampNeg (J 5)) (hI (wI h15 q12 (Int32.toNatClampNeg (J 4)) r16) q19 (Int32.toNatClampNeg (J x3)))) q20 (Int32.toNatClampNeg (J 6)) (hF (wI (wI h15 q12 (Int32.toNatClampNeg (J 4)) r16) q18 (Int32.toNatClampNeg (J 5)) (hI (wI h15 q12 (Int32.toNatClampNeg (J 4)) r16) q19 (Int32.toNatClampNeg (J x3)))) b 5)) q21 (Int32.toNatClampNeg (J 7)) (J x4)) q22).1 = 1 ∧ ix (J 8) (hs (wI (wI (wI (wI h15 q12 (Int32.toNatClampNeg (J 4)) r16) q18 (Int32.toNatClampNeg (J 5)) (hI (wI h15 q12 (Int32.toNatClampNeg (J 4)) r16) q19 (Int32.toNatClampNeg (J x3)))) q20 (Int32.toNatClampNeg (J 6)) (hF (wI (wI h15 q12 (Int32.toNatClampNeg (J 4)) r16) q18 (Int32.toNatClampNeg (J 5)) (hI (wI h15 q12 (Int32.toNatClampNeg (J 4)) r16) q19 (Int32.toNatClampNeg (J x3)))) b 5)) q21 (Int32.toNatClampNeg (J 7)) (J x4)) q22).2 ∧ hs (wI (wI (wI (wI (wI h15 q12 (Int32.toNatClampNeg (J 4)) r16) q18 (Int32.toNatClampNeg (J 5)) (hI (wI h15 q12 (Int32.toNatClampNeg (J 4)) r16) q19 (Int32.toNatClampNeg (J x3)))) q20 (Int32.toNatClampNeg (J 6)) (hF (wI (wI h15 q12 (Int32.toNatClampNeg (J 4)) r16) q18 (Int32.toNatClampNeg (J 5)) (hI (wI h15 q12 (Int32.toNatClampNeg (J 4)) r16) q19 (Int32.toNatClampNeg (J x3)))) b 5)) q21 (Int32.toNatClampNeg (J 7)) (J x4)) q22 (Int32.toNatClampNeg (J 8)) (J x6)) 241 = (0, 1) ∧ ∃ q23, hR (wI (wI (wI (wI (wI h15 q12 (Int32.toNatClampNeg (J 4)) r16) q18 (Int32.toNatClampNeg (J 5)) (hI (wI h15 q12 (Int32.toNatClampNeg (J 4)) r16) q19 (Int32.toNatClampNeg (J x3)))) q20 (Int32.toNatClampNeg (J 6)) (hF (wI (wI h15 q12 (Int32.toNatClampNeg (J 4)) r16) q18 (Int32.toNatClampNeg (J 5)) (hI (wI h15 q12 (Int32.toNatClampNeg (J 4)) r16) q19 (Int32.toNatClampNeg (J x3)))) b 5)) q21 (Int32.toNatClampNeg (J 7)) (J x4)) q22 (Int32.toNatClampNeg (J 8)) (J x6)) 241 4 = some q23 ∧ hs (wI (wI (wI (wI (wI h15 q12 (Int32.toNatClampNeg (J 4)) r16) q18 (Int32.toNatClampNeg (J 5)) (hI (wI h15 q12 (Int32.toNatClampNeg (J 4)) r16) q19 (Int32.toNatClampNeg (J x3)))) q20 (Int32.toNatClampNeg (J 6)) (hF (wI (wI h15 q12 (Int32.toNatClampNeg (J 4)) r16) q18 (Int32.toNatClampNeg (J 5)) (hI (wI h15 q12 (Int32.toNatClampNeg (J 4)) r16) q19 (Int32.toNatClampNeg (J x3)))) b 5)) q21 (Int32.toNatClampNeg (J 7)) (J x4)) q22 (Int32.toNatClampNeg (J 8)) (J x6)) b = (0, 9) ∧ ∃ q24, hR (wI (wI (wI (wI (wI h15 q12 (Int32.toNatClampNeg (J 4)) r16) q18 (Int32.toNatClampNeg (J 5)) (hI (wI h15 q12 (Int32.toNatClampNeg (J 4)) r16) q19 (Int32.toNatClampNeg (J x3)))) q20 (Int32.toNatClampNeg (J 6)) (hF (wI (wI h15 q12 (Int32.toNatClampNeg (J 4)) r16) q18 (Int32.toNatClampNeg (J 5)) (hI (wI h15 q12 (Int32.toNatClampNeg (J 4)) r16) q19 (Int32.toNatClampNeg (J x3)))) b 5)) q21 (Int32.toNatClampNeg (J 7)) (J x4)) q22 (Int32.toNatClampNeg (J 8)) (J x6)) b 2 = some q24 ∧ (hs (wI (wI (wI (wI (wI h15 q12 (Int32.toNatClampNeg (J 4)) r16) q18 (Int32.toNatClampNeg (J 5)) (hI (wI h15 q12 (Int32.toNatClampNeg (J 4)) r16) q19 (Int32.toNatClampNeg (J x3)))) q20 (Int32.toNatClampNeg (J 6)) (hF (wI (wI h15 q12 (Int32.toNatClampNeg (J 4)) r16) q18 (Int32.toNatClampNeg (J 5)) (hI (wI h15 q12 (Int32.toNatClampNeg (J 4)) r16) q19 (Int32.toNatClampNeg (J x3)))) b 5)) q21 (Int32.toNatClampNeg (J 7)) (J x4)) q22 (Int32.toNatClampNeg (J 8)) (J x6)) q24).1 = 1 ∧ ix (J x3) (hs (wI (wI (wI (wI (wI h15 q12 (Int32.toNatClampNeg (J 4)) r16) q18 (Int32.toNatClampNeg (J 5)) (hI (wI h15 q12 (Int32.toNatClampNeg (J 4)) r16) q19 (Int32.toNatClampNeg (J x3)))) q20 (Int32.toNatClampNeg (J 6)) (hF (wI (wI h15 q12 (Int32.toNatClampNeg (J 4)) r16) q18 (Int32.toNatClampNeg (J 5)) (hI (wI h15 q12 (Int32.toNatClampNeg (J 4)) r16) q19 (Int32.toNatClampNeg (J x3)))) b 5)) q21 (Int32.toNatClampNeg (J 7)) (J x4)) q22 (Int32.toNatClampNeg (J 8)) (J x6)) q24).2 ∧ (hs (wI (wI (wI (wI (wI h15 q12 (Int32.toNatClampNeg (J 4)) r16) q18 (Int32.toNatClampNeg (J 5)) (hI (wI h15 q12 (Int32.toNatClampNeg (J 4)) r16) q19 (Int32.toNatClampNeg (J x3)))) q20 (Int32.toNatClampNeg (J 6)) (hF (wI (wI h15 q12 (Int32.toNatClampNeg (J 4)) r16) q18 (Int32.toNatClampNeg (J 5)) (hI (wI h15 q12 (Int32.toNatClampNeg (J 4)) r16) q19 (Int32.toNatClampNeg (J x3)))) b 5)) q21 (Int32.toNatClampNeg (J 7)) (J x4)) q22 (Int32.toNatClampNeg (J 8)) (J x6)) q23).1 = 1 ∧ ix (J 9) (hs (wI (wI (wI (wI (wI h15 q12 (Int32.toNatClampNeg (J 4)) r16) q18 (Int32.toNatClampNeg (J 5)) (hI (wI h15 q12 (Int32.toNatClampNeg (J 4)) r16) q19 (Int32.toNatClampNeg (J x3)))) q20 (Int32.toNatClampNeg (J 6)) (hF (wI (wI h15 q12 (Int32.toNatClampNeg (J 4)) r16) q18 (Int32.toNatClampNeg (J 5)) (hI (wI h15 q12 (Int32.toNatClampNeg (J 4)) r16) q19 (Int32.toNatClampNeg (J x3)))) b 5)) q21 (Int32.toNatClampNeg (J 7)) (J x4)) q22 (Int32.toNatClampNeg (J 8)) (J x6)) q23).2 ∧ hs (wI (wI (wI (wI (wI (wI h15 q12 (Int32.toNatClampNeg (J 4)) r16) q18 (Int32.toNatClampNeg (J 5)) (hI (wI h15 q12 (Int32.toNatClampNeg (J 4)) r16) q19 (Int32.toNatClampNeg (J x3)))) q20 (Int32.toNatClampNeg (J 6)) (hF (wI (wI h15 q12 (Int32.toNatClampNeg (J 4)) r16) q18 (Int32.toNatClampNeg (J 5)) (hI (wI h15 q12 (Int32.toNatClampNeg (J 4)) r16) q19 (Int32.toNatClampNeg (J x3)))) b 5)) q21 (Int32.toNatClampNeg (J 7)) (J x4)) q22 (Int32.toNatClampNeg (J 8)) (J x6)) q23 (Int32.toNatClampNeg (J 9)) (hI (wI (wI (wI (wI (wI h15 q12 (Int32.toNatClampNeg (J 4)) r16) q18 (Int32.toNatClampNeg (J 5)) (hI (wI h15 q12 (Int32.toNatClampNeg (J 4)) r16) q19 (Int32.toNatClampNeg (J x3)))) q20 (Int32.toNatClampNeg (J 6)) (hF (wI (wI h15 q12 (Int32.toNatClampNeg (J 4)) r16) q18 (Int32.toNatClampNeg (J 5)) (hI (wI h15 q12 (Int32.toNatClampNeg (J 4)) r16) q19 (Int32.toNatClampNeg (J x3)))) b 5)) q21 (Int32.toNatClampNeg (J 7)) (J x4)) q22 (Int32.toNatClampNeg (J 8)) (J x6)) q24 (Int32.toNatClampNeg (J x3)))) 241 = (0, 1) ∧ ∃ q25, hR (wI (wI (wI (wI (wI (wI h15 q12 (Int32.toNatClampNeg (J 4)) r16) q18 (Int32.toNatClampNeg (J 5)) (hI (wI h15 q12 (Int32.toNatClampNeg (J 4)) r16) q19 (Int32.toNatClampNeg (J x3)))) q20 (Int32.toNatClampNeg (J 6)) (hF (wI (wI h15 q12 (Int32.toNatClampNeg (J 4)) r16) q18 (Int32.toNatClampNeg (J 5)) (hI (wI h15 q12 (Int32.toNatClampNeg (J 4)) r16) q19 (Int32.toNatClampNeg (J x3)))) b 5)) q21 (Int32.toNatClampNeg (J 7)) (J x4)) q22 (Int32.toNatClampNeg (J 8)) (J x6)) q23 (Int32.toNatClampNeg (J 9)) (hI (wI (wI (wI (wI (wI h15 q12 (Int32.toNatClampNeg (J 4)) r16) q18 (Int32.toNatClampNeg (J 5)) (hI (wI h15 q12 (Int32.toNatClampNeg (J 4)) r16) q19 (Int32.toNatClampNeg (J x3)))) q20 (Int32.toNatClampNeg (J 6)) (hF (wI (wI h15 q12 (Int32.toNatClampNeg (J 4)) r16) q18 (Int32.toNatClampNeg (J 5)) (hI (wI h15 q12 (Int32.toNatClampNeg (J 4)) r16) q19 (Int32.toNatClampNeg (J x3)))) b 5)) q21 (Int32.toNatClampNeg (J 7)) (J x4)) q22 (Int32.toNatClampNeg (J 8)) (J x6)) q24 (Int32.toNatClampNeg (J x3)))) 241 4 = some q25 ∧ hs (wI (wI (wI (wI (wI (wI h15 q12 (Int32.toNatClampNeg (J 4)) r16) q18 (Int32.toNatClampNeg (J 5)) (hI (wI h15 q12 (Int32.toNatClampNeg (J 4)) r16) q19 (Int32.toNatClampNeg (J x3)))) q20 (Int32.toNatClampNeg (J 6)) (hF (wI (wI h15 q12 (Int32.toNatClampNeg (J 4)) r16) q18 (Int32.toNatClampNeg (J 5)) (hI (wI h15 q12 (Int32.toNatClampNeg (J 4)) r16) q19 (Int32.toNatClampNeg (J x3)))) b 5)) q21 (Int32.toNatClampNeg (J 7)) (J x4)) q22 (Int32.toNatClampNeg (J 8)) (J x6)) q23 (Int32.toNatClampNeg (J 9)) (hI (wI (wI (wI (wI (wI h15 q12 (Int32.toNatClampNeg (J 4)) r16) q18 (Int32.toNatClampNeg (J 5)) (hI (wI h15 q12 (Int32.toNatClampNeg (J 4)) r16) q19 (Int32.toNatClampNeg (J x3)))) q20 (Int32.toNatClampNeg (J 6)) (hF (wI (wI h15 q12 (Int32.toNatClampNeg (J 4)) r16) q18 (Int32.toNatClampNeg (J 5)) (hI (wI h15 q12 (Int32.toNatClampNeg (J 4)) r16) q19 (Int32.toNatClampNeg (J x3)))) b 5)) q21 (Int32.toNatClampNeg (J 7)) (J x4)) q22 (Int32.toNatClampNeg (J 8)) (J x6)) q24 (Int32.toNatClampNeg (J x3)))) b = (0, 9) ∧ ∃ q26, hR (wI (wI (wI (wI (wI (wI h15 q12 (Int32.toNatClampNeg (J 4)) r16) q18 (Int32.toNatClampNeg (J 5)) (hI (wI h15 q12 (Int32.toNatClampNeg (J 4)) r16) q19 (Int32.toNatClampNeg (J x3)))) q20 (Int32.toNatClampNeg (J 6)) (hF (wI (wI h15 q12 (Int32.toNatClampNeg (J 4)) r16) q18 (Int32.toNatClampNeg (J 5)) (hI (wI h15 q12 (Int32.toNatClampNeg (J 4)) r16) q19 (Int32.toNatClampNeg (J x3)))) b 5)) q21 (Int32.toNatClampNeg (J 7)) (J x4)) q22 (Int32.toNatClampNeg (J 8)) (J x6)) q23 (Int32.toNatClampNeg (J 9)) (hI (wI (wI (wI (wI (wI h15 q12 (Int32.toNatClampNeg (J 4)) r16) q18 (Int32.toNatClampNeg (J 5)) (hI (wI h15 q12 (Int32.toNatClampNeg (J 4)) r16) q19 (Int32.toNatClampNeg (J x3)))) q20 (Int32.toNatClampNeg (J 6)) (hF (wI (wI h15 q12 (Int32.toNatClampNeg (J 4)) r16) q18 (Int32.toNatClampNeg (J 5)) (hI (wI h15 q12 (Int32.toNatClampNeg (J 4)) r16) q19 (Int32.toNatClampNeg (J x3)))) b 5)) q21 (Int32.toNatClampNeg (J 7)) (J x4)) q22 (Int32.toNatClampNeg (J 8)) (J x6)) q24 (Int32.toNatClampNeg (J x3)))) b 3 = some q26 ∧ (hs (wI (wI (wI (wI (wI (wI h15 q12 (Int32.toNatClampNeg (J 4)) r16) q18 (Int32.toNatClampNeg (J 5)) (hI (wI h15 q12 (Int32.toNatClampNeg (J 4)) r16) q19 (Int32.toNatClampNeg (J x3)))) q20 (Int32.toNatClampNeg (J 6)) (hF (wI (wI h15 q12 (Int32.toNatClampNeg (J 4)) r16) q18 (Int32.toNatClampNeg (J 5)) (hI (wI h15 q12 (Int32.toNatClampNeg (J 4)) r16) q19 (Int32.toNatClampNeg (J x3)))) b 5)) q21 (Int32.toNatClampNeg (J 7)) (J x4)) q22 (Int32.toNatClampNeg (J 8)) (J x6)) q23 (Int32.toNatClampNeg (J 9)) (hI (wI (wI (wI (wI (wI h15 q12 (Int32.toNatClampNeg (J 4)) r16) q18 (Int32.toNatClampNeg (J 5)) (hI (wI h15 q12 (Int32.toNatClampNeg (J 4)) r16) q19 (Int32.toNatClampNeg (J x3)))) q20 (Int32.toNatClampNeg (J 6)) (hF (wI (wI h15 q12 (Int32.toNatClampNeg (J 4)) r16) q18 (Int32.toNatClampNeg (J 5)) (hI (wI h15 q12 (Int32.toNatClampNeg (J 4)) r16) q19 (Int32.toNatClampNeg (J x3)))) b 5)) q21 (Int32.toNatClampNeg (J 7)) (J x4)) q22 (Int32.toNatClampNeg (J 8)) (J x6)) q24 (Int32.toNatClampNeg (J x3)))) q26).1 = 1 ∧ ix (J x3) (hs (wI (wI (wI (wI (wI (wI h15 q12 (Int32.toNatClampNeg (J 4)) r16) q18 (Int32.toNatClampNeg (J 5)) (hI (wI h15 q12 (Int32.toNatClampNeg (J 4)) r16) q19 (Int32.toNatClampNeg (J x3)))) q20 (Int32.toNatClampNeg (J 6)) (hF (wI (wI h15 q12 (Int32.toNatClampNeg (J 4)) r16) q18 (Int32.toNatClampNeg (J 5)) (hI (wI h15 q12 (Int32.toNatClampNeg (J 4)) r16) q19 (Int32.toNatClampNeg (J x3)))) b 5)) q21 (Int32.toNatClampNeg (J 7)) (J x4)) q22 (Int32.toNatClampNeg (J 8)) (J x6)) q23 (Int32.toNatClampNeg (J 9)) (hI (wI (wI (wI (wI (wI h15 q12 (Int32.toNatClampNeg (J 4)) r16) q18 (Int32.toNatClampNeg (J 5)) (hI (wI h15 q12 (Int32.toNatClampNeg (J 4)) r16) q19 (Int32.toNatClampNeg (J x3)))) q20 (Int32.toNatClampNeg (J 6)) (hF (wI (wI h15 q12 (Int32.toNatClampNeg (J 4)) r16) q18 (Int32.toNatClampNeg (J 5)) (hI (wI h15 q12 (Int32.toNatClampNeg (J 4)) r16) q19 (Int32.toNatClampNeg (J x3)))) b 5)) q21 (Int32.toNatClampNeg (J 7)) (J x4)) q22 (Int32.toNatClampNeg (J 8)) (J x6)) q24 (Int32.toNatClampNeg (J x3)))) q26).2 ∧ (hs (wI (wI (wI (wI (wI (wI h15 q12 (Int32.toNatClampNeg (J 4)) r16) q18 (Int32.toNatClampNeg (J 5)) (hI (wI h15 q12 (Int32.toNatClampNeg (J 4)) r16) q19 (Int32.toNatClampNeg (J x3)))) q20 (Int32.toNatClampNeg (J 6)) (hF (wI (wI h15 q12 (Int32.toNatClampNeg (J 4)) r16) q18 (Int32.toNatClampNeg (J 5)) (hI (wI h15 q12 (Int32.toNatClampNeg (J 4)) r16) q19 (Int32.toNatClampNeg (J x3)))) b 5)) q21 (Int32.toNatClampNeg (J 7)) (J x4)) q22 (Int32.toNatClampNeg (J 8)) (J x6)) q23 (Int32.toNatClampNeg (J 9)) (hI (wI (wI (wI (wI (wI h15 q12 (Int32.toNatClampNeg (J 4)) r16) q18 (Int32.toNatClampNeg (J 5)) (hI (wI h15 q12 (Int32.toNatClampNeg (J 4)) r16) q19 (Int32.toNatClampNeg (J x3)))) q20 (Int32.toNatClampNeg (J 6)) (hF (wI (wI h15 q12 (Int32.toNatClampNeg (J 4)) r16) q18 (Int32.toNatClampNeg (J 5)) (hI (wI h15 q12 (Int32.toNatClampNeg (J 4)) r16) q19 (Int32.toNatClampNeg (J x3)))) b 5)) q21 (Int32.toNatClampNeg (J 7)) (J x4)) q22 (Int32.toNatClampNeg (J 8)) (J x6)) q24 (Int32.toNatClampNeg (J x3)))) q25).1 = 1 ∧ ix (J 10) (hs (wI (wI (wI (wI (wI (wI h15 q12 (Int32.toNatClampNeg (J 4)) r16) q18 (Int32.toNatClampNeg (J 5)) (hI (wI h15 q12 (Int32.toNatClampNeg (J 4)) r16) q19 (Int32.toNatClampNeg (J x3)))) q20 (Int32.toNatClampNeg (J 6)) (hF (wI (wI h15 q12 (Int32.toNatClampNeg (J 4)) r16) q18 (Int32.toNatClampNeg (J 5)) (hI (wI h15 q12 (Int32.toNatClampNeg (J 4)) r16) q19 (Int32.toNatClampNeg (J x3)))) b 5)) q21 (Int32.toNatClampNeg (J 7)) (J x4)) q22 (Int32.toNatClampNeg (J 8)) (J x6)) q23 (Int32.toNatClampNeg (J 9)) (hI (wI (wI (wI (wI (wI h15 q12 (Int32.toNatClampNeg (J 4)) r16) q18 (Int32.toNatClampNeg (J 5)) (hI (wI h15 q12 (Int32.toNatClampNeg (J 4)) r16) q19 (Int32.toNatClampNeg (J x3)))) q20 (Int32.toNatClampNeg (J 6)) (hF (wI (wI h15 q12 (Int32.toNatClampNeg (J 4)) r16) q18 (Int32.toNatClampNeg (J 5)) (hI (wI h15 q12 (Int32.toNatClampNeg (J 4)) r16) q19 (Int32.toNatClampNeg (J x3)))) b 5)) q21 (Int32.toNatClampNeg (J 7)) (J x4)) q22 (Int32.toNatClampNeg (J 8)) (J x6)) q24 (Int32.toNatClampNeg (J x3)))) q25).2 ∧ hs (wI (wI (wI (wI (wI (wI (wI h15 q12 (Int32.toNatClampNeg (J 4)) r16) q18 (Int32.toNatClampNeg (J 5)) (hI (wI h15 q12 (Int32.toNatClampNeg (J 4)) r16) q19 (Int32.toNatClampNeg (J x3)))) q20 (Int32.toNatClampNeg (J 6)) (hF (wI (wI h15 q12 (Int32.toNatClampNeg (J 4)) r16) q18 (Int32.toNatClampNeg (J 5)) (hI (wI h15 q12 (Int32.toNatClampNeg (J 4)) r16) q19 (Int32.toNatClampNeg (J x3)))) b 5)) q21 (Int32.toNatClampNeg (J 7)) (J x4)) q22 (Int32.toNatClampNeg (J 8)) (J x6)) q23 (Int32.toNatClampNeg (J 9)) (hI (wI (wI (wI (wI (wI h15 q12 (Int32.toNatClampNeg (J 4)) r16) q18 (Int32.toNatClampNeg (J 5)) (hI (wI h15 q12 (Int32.toNatClampNeg (J 4)) r16) q19 (Int32.toNatClampNeg (J x3)))) q20 (Int32.toNatClampNeg (J 6)) (hF (wI (wI h15 q12 (Int32.toNatClampNeg (J 4)) r16) q18 (Int32.toNatClampNeg (J 5)) (hI (wI h15 q12 (Int32.toNatClampNeg (J 4)) r16) q19 (Int32.toNatClampNeg (J x3)))) b 5)) q21 (Int32.toNatClampNeg (J 7)) (J x4)) q22 (Int32.toNatClampNeg (J 8)) (J x6)) q24 (Int32.toNatClampNeg (J x3)))) q25 (Int32.toNatClampNeg (J 10)) (hI (wI (wI (wI (wI (wI (wI h15 q12 (Int32.toNatClampNeg (J 4)) r16) q18 (Int32.toNatClampNeg (J 5)) (hI (wI h15 q12 (Int32.toNatClampNeg (J 4)) r16) q19 (Int32.toNatClampNeg (J x3)))) q20 (Int32.toNatClampNeg (J 6)) (hF (wI (wI h15 q12 (Int32.toNatClampNeg (J 4)) r16) q18 (Int32.toNatClampNeg (J 5)) (hI (wI h15 q12 (Int32.toNatClampNeg (J 4)) r16) q19 (Int32.toNatClampNeg (J x3)))) b 5)) q21 (Int32.toNatClampNeg (J 7)) (J x4)) q22 (Int32.toNatClampNeg (J 8)) (J x6)) q23 (Int32.toNatClampNeg (J 9)) (hI (wI (wI (wI (wI (wI h15 q12 (Int32.toNatClampNeg (J 4)) r16) q18 (Int32.toNatClampNeg (J 5)) (hI (wI h15 q12 (Int32.toNatClampNeg (J 4)) r16) q19 (Int32.toNatClampNeg (J x3)))) q20 (Int32.toNatClampNeg (J 6)) (hF (wI (wI h15 q12 (Int32.toNatClampNeg (J 4)) r16) q18 (Int32.toNatClampNeg (J 5)) (hI (wI h15 q12 (Int32.toNatClampNeg (J 4)) r16) q19 (Int32.toNatClampNeg (J x3)))) b 5)) q21 (Int32.toNatClampNeg (J 7)) (J x4)) q22 (Int32.toNatClampNeg (J 8)) (J x6)) q24 (Int32.toNatClampNeg (J x3)))) q26 (Int32.toNatClampNeg (J x3)))) 241 = (0, 1) ∧ ∃ q27, hR (wI (wI (wI (wI (wI (wI (wI h15 q12 (Int32.toNatClampNeg (J 4)) r16) q18 (Int32.toNatClampNeg (J 5)) (hI (wI h15 q12 (Int32.toNatClampNeg (J 4)) r16) q19 (Int32.toNatClampNeg (J x3)))) q20 (Int32.toNatClampNeg (J 6)) (hF (wI (wI h15 q12 (Int32.toNatClampNeg (J 4)) r16) q18 (Int32.toNatClampNeg (J 5)) (hI (wI h15 q12 (Int32.toNatClampNeg (J 4)) r16) q19 (Int32.toNatClampNeg (J x3)))) b 5)) q21 (Int32.toNatClampNeg (J 7)) (J x4)) q22 (Int32.toNatClampNeg (J 8)) (J x6)) q23 (Int32.toNatClampNeg (J 9)) (hI (wI (wI (wI (wI (wI h15 q12 (Int32.toNatClampNeg (J 4)) r16) q18 (Int32.toNatClampNeg (J 5)) (hI (wI h15 q12 (Int32.toNatClampNeg (J 4)) r16) q19 (Int32.toNatClampNeg (J x3)))) q20 (Int32.toNatClampNeg (J 6)) (hF (wI (wI h15 q12 (Int32.toNatClampNeg (J 4)) r16) q18 (Int32.toNatClampNeg (J 5)) (hI (wI h15 q12 (Int32.toNatClampNeg (J 4)) r16) q19 (Int32.toNatClampNeg (J x3)))) b 5)) q21 (Int32.toNatClampNeg (J 7)) (J x4)) q22 (Int32.toNatClampNeg (J 8)) (J x6)) q24 (Int32.toNatClampNeg (J x3)))) q25 (Int32.toNatClampNeg (J 10)) (hI (wI (wI (wI (wI (wI (wI h15 q12 (Int32.toNatClampNeg (J 4)) r16) q18 (Int32.toNatClampNeg (J 5)) (hI (wI h15 q12 (Int32.toNatClampNeg (J 4)) r16) q19 (Int32.toNatClampNeg (J x3)))) q20 (Int32.toNatClampNeg (J 6)) (hF (wI (wI h15 q12 (Int32.toNatClampNeg (J 4)) r16) q18 (Int32.toNatClampNeg (J 5)) (hI (wI h15 q12 (Int32.toNatClampNeg (J 4)) r16) q19 (Int32.toNatClampNeg (J x3)))) b 5)) q21 (Int32.toNatClampNeg (J 7)) (J x4)) q22 (Int32.toNatClampNeg (J 8)) (J x6)) q23 (Int32.toNatClampNeg (J 9)) (hI (wI (wI (wI (wI (wI h15 q12 (Int32.toNatClampNeg (J 4)) r16) q18 (Int32.toNatClampNeg (J 5)) (hI (wI h15 q12 (Int32.toNatClampNeg (J 4)) r16) q19 (Int32.toNatClampNeg (J x3)))) q20 (Int32.toNatClampNeg (J 6)) (hF (wI (wI h15 q12 (Int32.toNatClampNeg (J 4)) r16) q18 (Int32.toNatClampNeg (J 5)) (hI (wI h15 q12 (Int32.toNatClampNeg (J 4)) r16) q19 (Int32.toNatClampNeg (J x3)))) b 5)) q21 (Int32.toNatClampNeg (J 7)) (J x4)) q22 (Int32.toNatClampNeg (J 8)) (J x6)) q24 (Int32.toNatClampNeg (J x3)))) q26 (Int32.toNatClampNeg (J x3)))) 241 4 = some q27 ∧ (hs (wI (wI (wI (wI (wI (wI (wI h15 q12 (Int32.toNatClampNeg (J 4)) r16) q18 (Int32.toNatClampNeg (J 5)) (hI (wI h15 q12 (Int32.toNatClampNeg (J 4)) r16) q19 (Int32.toNatClampNeg (J x3)))) q20 (Int32.toNatClampNeg (J 6)) (hF (wI (wI h15 q12 (Int32.toNatClampNeg (J 4)) r16) q18 (Int32.toNatClampNeg (J 5)) (hI (wI h15 q12 (Int32.toNatClampNeg (J 4)) r16) q19 (Int32.toNatClampNeg (J x3)))) b 5)) q21 (Int32.toNatClampNeg (J 7)) (J x4)) q22 (Int32.toNatClampNeg (J 8)) (J x6)) q23 (Int32.toNatClampNeg (J 9)) (hI (wI (wI (wI (wI (wI h15 q12 (Int32.toNatClampNeg (J 4)) r16) q18 (Int32.toNatClampNeg (J 5)) (hI (wI h15 q12 (Int32.toNatClampNeg (J 4)) r16) q19 (Int32.toNatClampNeg (J x3)))) q20 (Int32.toNatClampNeg (J 6)) (hF (wI (wI h15 q12 (Int32.toNatClampNeg (J 4)) r16) q18 (Int32.toNatClampNeg (J 5)) (hI (wI h15 q12 (Int32.toNatClampNeg (J 4)) r16) q19 (Int32.toNatClampNeg (J x3)))) b 5)) q21 (Int32.toNatClampNeg (J 7)) (J x4)) q22 (Int32.toNatClampNeg (J 8)) (J x6)) q24 (Int32.toNatClampNeg (J x3)))) q25 (Int32.toNatClampNeg (J 10)) (hI (wI (wI (wI (wI (wI (wI h15 q12 (Int32.toNatClampNeg (J 4)) r16) q18 (Int32.toNatClampNeg (J 5)) (hI (wI h15 q12 (Int32.toNatClampNeg (J 4)) r16) q19 (Int32.toNatClampNeg (J x3)))) q20 (Int32.toNatClampNeg (J 6)) (hF (wI (wI h15 q12 (Int32.toNatClampNeg (J 4)) r16) q18 (Int32.toNatClampNeg (J 5)) (hI (wI h15 q12 (Int32.toNatClampNeg (J 4)) r16) q19 (Int32.toNatClampNeg (J x3)))) b 5)) q21 (Int32.toNatClampNeg (J 7)) (J x4)) q22 (Int32.toNatClampNeg (J 8)) (J x6)) q23 (Int32.toNatClampNeg (J 9)) (hI (wI (wI (wI (wI (wI h15 q12 (Int32.toNatClampNeg (J 4)) r16) q18 (Int32.toNatClampNeg (J 5)) (hI (wI h15 q12 (Int32.toNatClampNeg (J 4)) r16) q19 (Int32.toNatClampNeg (J x3)))) q20 (Int32.toNatClampNeg (J 6)) (hF (wI (wI h15 q12 (Int32.toNatClampNeg (J 4)) r16) q18 (Int32.toNatClampNeg (J 5)) (hI (wI h15 q12 (Int32.toNatClampNeg (J 4)) r16) q19 (Int32.toNatClampNeg (J x3)))) b 5)) q21 (Int32.toNatClampNeg (J 7)) (J x4)) q22 (Int32.toNatClampNeg (J 8)) (J x6)) q24 (Int32.toNatClampNeg (J x3)))) q26 (Int32.toNatClampNeg (J x3)))) q27).1 = 1 ∧ ix (J 11) (hs (wI (wI (wI (wI (wI (wI (wI h15 q12 (Int32.toNatClampNeg (J 4)) r16) q18 (Int32.toNatClampNeg (J 5)) (hI (wI h15 q12 (Int32.toNatClampNeg (J 4)) r16) q19 (Int32.toNatClampNeg (J x3)))) q20 (Int32.toNatClampNeg (J 6)) (hF (wI (wI h15 q12 (Int32.toNatClampNeg (J 4)) r16) q18 (Int32.toNatClampNeg (J 5)) (hI (wI h15 q12 (Int32.toNatClampNeg (J 4)) r16) q19 (Int32.toNatClampNeg (J x3)))) b 5)) q21 (Int32.toNatClampNeg (J 7)) (J x4)) q22 (Int32.toNatClampNeg (J 8)) (J x6)) q23 (Int32.toNatClampNeg (J 9)) (hI (wI (wI (wI (wI (wI h15 q12 (Int32.toNatClampNeg (J 4)) r16) q18 (Int32.toNatClampNeg (J 5)) (hI (wI h15 q12 (Int32.toNatClampNeg (J 4)) r16) q19 (Int32.toNatClampNeg (J x3)))) q20 (Int32.toNatClampNeg (J 6)) (hF (wI (wI h15 q12 (Int32.toNatClampNeg (J 4)) r16) q18 (Int32.toNatClampNeg (J 5)) (hI (wI h15 q12 (Int32.toNatClampNeg (J 4)) r16) q19 (Int32.toNatClampNeg (J x3)))) b 5)) q21 (Int32.toNatClampNeg (J 7)) (J x4)) q22 (Int32.toNatClampNeg (J 8)) (J x6)) q24 (Int32.toNatClampNeg (J x3)))) q25 (Int32.toNatClampNeg (J 10)) (hI (wI (wI (wI (wI (wI (wI h15 q12 (Int32.toNatClampNeg (J 4)) r16) q18 (Int32.toNatClampNeg (J 5)) (hI (wI h15 q12 (Int32.toNatClampNeg (J 4)) r16) q19 (Int32.toNatClampNeg (J x3)))) q20 (Int32.toNatClampNeg (J 6)) (hF (wI (wI h15 q12 (Int32.toNatClampNeg (J 4)) r16) q18 (Int32.toNatClampNeg (J 5)) (hI (wI h15 q12 (Int32.toNatClampNeg (J 4)) r16) q19 (Int32.toNatClampNeg (J x3)))) b 5)) q21 (Int32.toNatClampNeg (J 7)) (J x4)) q22 (Int32.toNatClampNeg (J 8)) (J x6)) q23 (Int32.toNatClampNeg (J 9)) (hI (wI (wI (wI (wI (wI h15 q12 (Int32.toNatClampNeg (J 4)) r16) q18 (Int32.toNatClampNeg (J 5)) (hI (wI h15 q12 (Int32.toNatClampNeg (J 4)) r16) q19 (Int32.toNatClampNeg (J x3)))) q20 (Int32.toNatClampNeg (J 6)) (hF (wI (wI h15 q12 (Int32.toNatClampNeg (J 4)) r16) q18 (Int32.toNatClampNeg (J 5)) (hI (wI h15 q12 (Int32.toNatClampNeg (J 4)) r16) q19 (Int32.toNatClampNeg (J x3)))) b 5)) q21 (Int32.toNatClampNeg (J 7)) (J x4)) q22 (Int32.toNatClampNeg (J 8)) (J x6)) q24 (Int32.toNatClampNeg (J x3)))) q26 (Int32.toNatClampNeg (J x3)))) q27).2 ∧ Q none (wI (wI (wI (wI (wI (wI (wI (wI h15 q12 (Int32.toNatClampNeg (J 4)) r16) q18 (Int32.toNatClampNeg (J 5)) (hI (wI h15 q12 (Int32.toNatClampNeg (J 4)) r16) q19 (Int32.toNatClampNeg (J x3)))) q20 (Int32.toNatClampNeg (J 6)) (hF (wI (wI h15 q12 (Int32.toNatClampNeg (J 4)) r16) q18 (Int32.toNatClampNeg (J 5)) (hI (wI h15 q12 (Int32.toNatClampNeg (J 4)) r16) q19 (Int32.toNatClampNeg (J x3)))) b 5)) q21 (Int32.toNatClampNeg (J 7)) (J x4)) q22 (Int32.toNatClampNeg (J 8)) (J x6)) q23 (Int32.toNatClampNeg (J 9)) (hI (wI (wI (wI (wI (wI h15 q12 (Int32.toNatClampNeg (J 4)) r16) q18 (Int32.toNatClampNeg (J 5)) (hI (wI h15 q12 (Int32.toNatClampNeg (J 4)) r16) q19 (Int32.toNatClampNeg (J x3)))) q20 (Int32.toNatClampNeg (J 6)) (hF (wI (wI h15 q12 (Int32.toNatClampNeg (J 4)) r16) q18 (Int32.toNatClampNeg (J 5)) (hI (wI h15 q12 (Int32.toNatClampNeg (J 4)) r16) q19 (Int32.toNatClampNeg (J x3)))) b 5)) q21 (Int32.toNatClampNeg (J 7)) (J x4)) q22 (Int32.toNatClampNeg (J 8)) (J x6)) q24 (Int32.toNatClampNeg (J x3)))) q25 (Int32.toNatClampNeg (J 10)) (hI (wI (wI (wI (wI (wI (wI h15 q12 (Int32.toNatClampNeg (J 4)) r16) q18 (Int32.toNatClampNeg (J 5)) (hI (wI h15 q12 (Int32.toNatClampNeg (J 4)) r16) q19 (Int32.toNatClampNeg (J x3)))) q20 (Int32.toNatClampNeg (J 6)) (hF (wI (wI h15 q12 (Int32.toNatClampNeg (J 4)) r16) q18 (Int32.toNatClampNeg (J 5)) (hI (wI h15 q12 (Int32.toNatClampNeg (J 4)) r16) q19 (Int32.toNatClampNeg (J x3)))) b 5)) q21 (Int32.toNatClampNeg (J 7)) (J x4)) q22 (Int32.toNatClampNeg (J 8)) (J x6)) q23 (Int32.toNatClampNeg (J 9)) (hI (wI (wI (wI (wI (wI h15 q12 (Int32.toNatClampNeg (J 4)) r16) q18 (Int32.toNatClampNeg (J 5)) (hI (wI h15 q12 (Int32.toNatClampNeg (J 4)) r16) q19 (Int32.toNatClampNeg (J x3)))) q20 (Int32.toNatClampNeg (J 6)) (hF (wI (wI h15 q12 (Int32.toNatClampNeg (J 4)) r16) q18 (Int32.toNatClampNeg (J 5)) (hI (wI h15 q12 (Int32.toNatClampNeg (J 4)) r16) q19 (Int32.toNatClampNeg (J x3)))) b 5)) q21 (Int32.toNatClampNeg (J 7)) (J x4)) q22 (Int32.toNatClampNeg (J 8)) (J x6)) q24 (Int32.toNatClampNeg (J x3)))) q26 (Int32.toNatClampNeg (J x3)))) q27 (Int32.toNatClampNeg (J 11)) (J x7)))) ∧ (¬ ((hF h a 2) ≤ (J x8)) → (((J x8) = (J x3) → (((J x8) = (J x3) → Ex X PG (d + 1) 91 27 [some (.ref 241), some (.ref a), some (.ref b), some (.int (J x3)), some (.int (J x4)), some (.int (J x5)), some (.int (J x6)), some (.int (J x7)), some (.int ((J x8) + (J 1)))] [] h Q) ∧ (¬ ((J x8) = (J x3)) → hs h 241 = (0, 1) ∧ ∃ q33, hR h 241 0 = some q33 ∧ (hs h q33).1 = 1 ∧ ix (J x8) (hs h q33).2 ∧ ((¬ (hI h q33 (Int32.toNatClampNeg (J x8))) = (J x5) → Ex X PG (d + 1) 91 27 [some (.ref 241), some (.ref a), some (.ref b), some (.int (J x3)), some (.int (J x4)), some (.int (J x5)), some (.int (J x6)), some (.int (J x7)), some (.int ((J x8) + (J 1)))] [] h Q) ∧ (¬ (¬ (hI h q33 (Int32.toNatClampNeg (J x8))) = (J x5)) → hs h a = (0, 2) ∧ ∃ q38, hR h a 6 = some q38 ∧ hs h b = (0, 9) ∧ ∃ q39, hR h b 0 = some q39 ∧ (hs h q39).1 = 1 ∧ ix (J x8) (hs h q39).2 ∧ (hs h q38).1 = 1 ∧ ix (hI h q39 (Int32.toNatClampNeg (J x8))) (hs h q38).2 ∧ hs h a = (0, 2) ∧ ∃ q41, hR h a 6 = some q41 ∧ (hs h q41).1 = 1 ∧ ix (J x5) (hs h q41).2 ∧ (((hI h q38 (Int32.toNatClampNeg (hI h q39 (Int32.toNatClampNeg (J x8))))) ≤ (hI h q41 (Int32.toNatClampNeg (J x5))) → Ex X PG (d + 1) 91 27 [some (.ref 241), some (.ref a), some (.ref b), some (.int (J x3)), some (.int (J x4)), some (.int (J x5)), some (.int (J x6)), some (.int (J x7)), some (.int ((J x8) + (J 1)))] [] h Q) ∧ (¬ ((hI h q38 (Int32.toNatClampNeg (hI h q39 (Int32.toNatClampNeg (J x8))))) ≤ (hI h q41 (Int32.toNatClampNeg (J x5)))) → Ex X PG (d + 1) 91 27 [some (.ref 241), some (.ref a), some (.ref b), some (.int (J x3)), some (.int (J x4)), some (.int (J x5)), some (.int (J x6)), some (.int ((J x7) + (J 1))), some (.int ((J x8) + (J 1)))] [] h Q))))))) ∧ (¬ ((J x8) = (J x3)) → hs h b = (0, 9) ∧ ∃ q45, hR h b 0 = some q45 ∧ (hs h q45).1 = 1 ∧ ix (J x8) (hs h q45).2 ∧ ((¬ (hI h q45 (Int32.toNatClampNeg (J x8))) = (J x5) → (((J x8) = (J x3) → Ex X PG (d + 1) 91 27 [some (.ref 241), some (.ref a), some (.ref b), some (.int (J x3)), some (.int (J x4)), some (.int (J x5)), some (.int (J x6)), some (.int (J x7)), some (.int ((J x8) + (J 1)))] [] h Q) ∧ (¬ ((J x8) = (J x3)) → hs h 241 = (0, 1) ∧ ∃ q52, hR h 241 0 = some q52 ∧ (hs h q52).1 = 1 ∧ ix (J x8) (hs h q52).2 ∧ ((¬ (hI h q52 (Int32.toNatClampNeg (J x8))) = (J x5) → Ex X PG (d + 1) 91 27 [some (.ref 241), some (.ref a), some (.ref b), some (.int (J x3)), some (.int (J x4)), some (.int (J x5)), some (.int (J x6)), some (.int (J x7)), some (.int ((J x8) + (J 1)))] [] h Q) ∧ (¬ (¬ (hI h q52 (Int32.toNatClampNeg (J x8))) = (J x5)) → hs h a = (0, 2) ∧ ∃ q55, hR h a 6 = some q55 ∧ hs h b = (0, 9) ∧ ∃ q56, hR h b 0 = some q56 ∧ (hs h q56).1 = 1 ∧ ix (J x8) (hs h q56).2 ∧ (hs h q55).1 = 1 ∧ ix (hI h q56 (Int32.toNatClampNeg (J x8))) (hs h q55).2 ∧ hs h a = (0, 2) ∧ ∃ q58, hR h a 6 = some q58 ∧ (hs h q58).1 = 1 ∧ ix (J x5) (hs h q58).2 ∧ (((hI h q55 (Int32.toNatClampNeg (hI h q56 (Int32.toNatClampNeg (J x8))))) ≤ (hI h q58 (Int32.toNatClampNeg (J x5))) → Ex X PG (d + 1) 91 27 [some (.ref 241), some (.ref a), some (.ref b), some (.int (J x3)), some (.int (J x4)), some (.int (J x5)), some (.int (J x6)), some (.int (J x7)), some (.int ((J x8) + (J 1)))] [] h Q) ∧ (¬ ((hI h q55 (Int32.toNatClampNeg (hI h q56 (Int32.toNatClampNeg (J x8))))) ≤ (hI h q58 (Int32.toNatClampNeg (J x5)))) → Ex X PG (d + 1) 91 27 [some (.ref 241), some (.ref a), some (.ref b), some (.int (J x3)), some (.int (J x4)), some (.int (J x5)), some (.int (J x6)), some (.int ((J x7) + (J 1))), some (.int ((J x8) + (J 1)))] [] h Q))))))) ∧ (¬ (¬ (hI h q45 (Int32.toNatClampNeg (J x8))) = (J x5)) → (((J x8) = (J x3) → Ex X PG (d + 1) 91 27 [some (.ref 241), some (.ref a), some (.ref b), some (.int (J x3)), some (.int (J x4)), some (.int (J x5)), some (.int ((J x6) + (J 1))), some (.int (J x7)), some (.int ((J x8) + (J 1)))] [] h Q) ∧ (¬ ((J x8) = (J x3)) → hs h 241 = (0, 1) ∧ ∃ q64, hR h 241 0 = some q64 ∧ (hs h q64).1 = 1 ∧ ix (J x8) (hs h q64).2 ∧ ((¬ (hI h q64 (Int32.toNatClampNeg (J x8))) = (J x5) → Ex X PG (d + 1) 91 27 [some (.ref 241), some (.ref a), some (.ref b), some (.int (J x3)), some (.int (J x4)), some (.int (J x5)), some (.int ((J x6) + (J 1))), some (.int (J x7)), some (.int ((J x8) + (J 1)))] [] h Q) ∧ (¬ (¬ (hI h q64 (Int32.toNatClampNeg (J x8))) = (J x5)) → hs h a = (0, 2) ∧ ∃ q67, hR h a 6 = some q67 ∧ hs h b = (0, 9) ∧ ∃ q68, hR h b 0 = some q68 ∧ (hs h q68).1 = 1 ∧ ix (J x8) (hs h q68).2 ∧ (hs h q67).1 = 1 ∧ ix (hI h q68 (Int32.toNatClampNeg (J x8))) (hs h q67).2 ∧ hs h a = (0, 2) ∧ ∃ q70, hR h a 6 = some q70 ∧ (hs h q70).1 = 1 ∧ ix (J x5) (hs h q70).2 ∧ (((hI h q67 (Int32.toNatClampNeg (hI h q68 (Int32.toNatClampNeg (J x8))))) ≤ (hI h q70 (Int32.toNatClampNeg (J x5))) → Ex X PG (d + 1) 91 27 [some (.ref 241), some (.ref a), some (.ref b), some (.int (J x3)), some (.int (J x4)), some (.int (J x5)), some (.int ((J x6) + (J 1))), some (.int (J x7)), some (.int ((J x8) + (J 1)))] [] h Q) ∧ (¬ ((hI h q67 (Int32.toNatClampNeg (hI h q68 (Int32.toNatClampNeg (J x8))))) ≤ (hI h q70 (Int32.toNatClampNeg (J x5)))) → Ex X PG (d + 1) 91 27 [some (.ref 241), some (.ref a), some (.ref b), some (.int (J x3)), some (.int (J x4)), some (.int (J x5)), some (.int ((J x6) + (J 1))), some (.int ((J x7) + (J 1))), some (.int ((J x8) + (J 1)))] [] h Q))))))))))))
  have ne_0 : ¬ a + 1 = 246 := by omega
  have ne_1 : ¬ a + 10 = 246 := by omega
  have ne_2 : ¬ a + 6 = 246 := by omega
  have ne_3 : ¬ b + 2 = 246 := by omega
  have ne_4 : ¬ b + 3 = 246 := by omega
  have ne_5 : ¬ b + 4 = 246 := by omega
  have ne_6 : ¬ b = 246 := by omega
  try simp only [aI_wAL, fI_wAL, aL_wA, aL_wF, aI_wA_ne, aI_wF_ne, fI_wA_ne, fI_wF_ne, fI_wF_nk, aL_wAL_ne, J_sameA, J_sameF, aL_same, Nat.add_left_cancel_iff, Nat.add_eq_left, Nat.left_eq_add, not_false_eq_true, Nat.reduceEqDiff, ne_0, ne_1, ne_2, ne_3, ne_4, ne_5, ne_6, Nat.reduceAdd, J_add, J_sub, J_mul, J_neg, J_and, J_or, J_xor, J_shl, J_shr, J_div, J_i2b, J_i2l, J_l2i, J_lcm, J_max, J_min, J_nab, J_nao, rdA, rdF, rdL, wA_fold, wF_fold, wL_fold, wC_fold]
  refine ⟨(plan_0 K_h_0), ?_⟩
  obtain ⟨k3, w⟩ := w
  refine ⟨fun c1 => ?_, fun c1 => ?_⟩
  · have t2 : fI h a 2 ≤ x8 := ((Jle (rg_toInt _) k3).mp c1)
    replace w := w.1 t2
    refine ⟨(ls241 C_h), _, (lr241_4 C_h), ?_⟩
    refine ⟨congrArg Prod.fst (ls246 C_h), ixs (ls246 C_h) (by decide) (by decide), ?_⟩
    refine ⟨(ls241 C_h), _, (lr241_4 C_h), ?_⟩
    refine ⟨congrArg Prod.fst (ls246 C_h), ixs (ls246 C_h) (by decide) (by decide), ?_⟩
    refine ⟨(ls241 C_h), _, (lr241_4 C_h), ?_⟩
    refine ⟨(plan_0 K_h_0), _, (plan_11 K_h_0), ?_⟩
    obtain ⟨k8, w⟩ := w
    refine ⟨congrArg Prod.fst (plan_1 K_h_0), ixs (plan_1 K_h_0) k8 (by decide), ?_⟩
    try simp only [aI_wAL, fI_wAL, aL_wA, aL_wF, aI_wA_ne, aI_wF_ne, fI_wA_ne, fI_wF_ne, fI_wF_nk, aL_wAL_ne, J_sameA, J_sameF, aL_same, Nat.add_left_cancel_iff, Nat.add_eq_left, Nat.left_eq_add, not_false_eq_true, Nat.reduceEqDiff, ne_0, ne_1, ne_2, ne_3, ne_4, ne_5, ne_6, Nat.reduceAdd]
    refine ⟨congrArg Prod.fst (ls246 C_h), ixs (ls246 C_h) (by decide) (by decide), ?_⟩
    refine ⟨(ls241 C_h), _, (lr241_4 C_h), ?_⟩
    refine ⟨(world_0 K_h_1), _, (world_7 K_h_1), ?_⟩
    obtain ⟨k11, w⟩ := w
    refine ⟨congrArg Prod.fst (world_2 K_h_1), ixs (world_2 K_h_1) k11 (by decide), ?_⟩
    try simp only [aI_wAL, fI_wAL, aL_wA, aL_wF, aI_wA_ne, aI_wF_ne, fI_wA_ne, fI_wF_ne, fI_wF_nk, aL_wAL_ne, J_sameA, J_sameF, aL_same, Nat.add_left_cancel_iff, Nat.add_eq_left, Nat.left_eq_add, not_false_eq_true, Nat.reduceEqDiff, ne_0, ne_1, ne_2, ne_3, ne_4, ne_5, ne_6, Nat.reduceAdd]
    refine ⟨congrArg Prod.fst (ls246 C_h), ixs (ls246 C_h) (by decide) (by decide), ?_⟩
    refine ⟨(ls241 C_h), _, (lr241_4 C_h), ?_⟩
    refine ⟨(world_0 K_h_1), _, (world_7 K_h_1), ?_⟩
    refine ⟨congrArg Prod.fst (world_2 K_h_1), ixs (world_2 K_h_1) k11 (by decide), ?_⟩
    try simp only [aI_wAL, fI_wAL, aL_wA, aL_wF, aI_wA_ne, aI_wF_ne, fI_wA_ne, fI_wF_ne, fI_wF_nk, aL_wAL_ne, J_sameA, J_sameF, aL_same, Nat.add_left_cancel_iff, Nat.add_eq_left, Nat.left_eq_add, not_false_eq_true, Nat.reduceEqDiff, ne_0, ne_1, ne_2, ne_3, ne_4, ne_5, ne_6, Nat.reduceAdd]
    refine ⟨(plan_0 K_h_0), ?_⟩
    obtain ⟨k17, w⟩ := w
    refine m54 (h := wA (wA (wA (wA h 246 0 x3) 246 1 x5) 246 2 (aI h (a + 1) x5)) 246 3 (aI h (b + 2) x3)) (a := a) (r := x4) (x := x5) (y := (aI h (b + 2) x3)) C_h K_h_0 (by omega) (by first | exact k17 | (simp only [aI_wAL, fI_wAL, aL_wA, aL_wF, aI_wA_ne, aI_wF_ne, fI_wA_ne, fI_wF_ne, fI_wF_nk, aL_wAL_ne, Nat.add_left_cancel_iff, Nat.add_eq_left, Nat.left_eq_add, not_false_eq_true, Nat.reduceEqDiff, ne_0, ne_1, ne_2, ne_3, ne_4, ne_5, ne_6]; exact k17)) ?_
    refine ⟨_, rfl, ?_⟩
    try simp only [aI_wAL, fI_wAL, aL_wA, aL_wF, aI_wA_ne, aI_wF_ne, fI_wA_ne, fI_wF_ne, fI_wF_nk, aL_wAL_ne, J_sameA, J_sameF, aL_same, Nat.add_left_cancel_iff, Nat.add_eq_left, Nat.left_eq_add, not_false_eq_true, Nat.reduceEqDiff, ne_0, ne_1, ne_2, ne_3, ne_4, ne_5, ne_6, Nat.reduceAdd, J_add, J_sub, J_mul, J_neg, J_and, J_or, J_xor, J_shl, J_shr, J_div, J_i2b, J_i2l, J_l2i, J_lcm, J_max, J_min, J_nab, J_nao, rdA, rdF, rdL, wA_fold, wF_fold, wL_fold, wC_fold]
    refine ⟨congrArg Prod.fst (ls246 C_h), ixs (ls246 C_h) (by decide) (by decide), ?_⟩
    refine ⟨(ls241 C_h), _, (lr241_4 C_h), ?_⟩
    refine ⟨(plan_0 K_h_0), _, (plan_16 K_h_0), ?_⟩
    refine ⟨congrArg Prod.fst (plan_6 K_h_0), ixs (plan_6 K_h_0) k11 (by decide), ?_⟩
    try simp only [aI_wAL, fI_wAL, aL_wA, aL_wF, aI_wA_ne, aI_wF_ne, fI_wA_ne, fI_wF_ne, fI_wF_nk, aL_wAL_ne, J_sameA, J_sameF, aL_same, Nat.add_left_cancel_iff, Nat.add_eq_left, Nat.left_eq_add, not_false_eq_true, Nat.reduceEqDiff, ne_0, ne_1, ne_2, ne_3, ne_4, ne_5, ne_6, Nat.reduceAdd]
    refine ⟨congrArg Prod.fst (ls246 C_h), ixs (ls246 C_h) (by decide) (by decide), ?_⟩
    refine ⟨(ls241 C_h), _, (lr241_4 C_h), ?_⟩
    refine ⟨(world_0 K_h_1), ?_⟩
    refine ⟨congrArg Prod.fst (ls246 C_h), ixs (ls246 C_h) (by decide) (by decide), ?_⟩
    refine ⟨(ls241 C_h), _, (lr241_4 C_h), ?_⟩
    refine ⟨congrArg Prod.fst (ls246 C_h), ixs (ls246 C_h) (by decide) (by decide), ?_⟩
    refine ⟨(ls241 C_h), _, (lr241_4 C_h), ?_⟩
    refine ⟨congrArg Prod.fst (ls246 C_h), ixs (ls246 C_h) (by decide) (by decide), ?_⟩
    refine ⟨(ls241 C_h), _, (lr241_4 C_h), ?_⟩
    refine ⟨(world_0 K_h_1), _, (world_8 K_h_1), ?_⟩
    refine ⟨congrArg Prod.fst (world_3 K_h_1), ixs (world_3 K_h_1) k11 (by decide), ?_⟩
    try simp only [aI_wAL, fI_wAL, aL_wA, aL_wF, aI_wA_ne, aI_wF_ne, fI_wA_ne, fI_wF_ne, fI_wF_nk, aL_wAL_ne, J_sameA, J_sameF, aL_same, Nat.add_left_cancel_iff, Nat.add_eq_left, Nat.left_eq_add, not_false_eq_true, Nat.reduceEqDiff, ne_0, ne_1, ne_2, ne_3, ne_4, ne_5, ne_6, Nat.reduceAdd]
    refine ⟨congrArg Prod.fst (ls246 C_h), ixs (ls246 C_h) (by decide) (by decide), ?_⟩
    refine ⟨(ls241 C_h), _, (lr241_4 C_h), ?_⟩
    refine ⟨(world_0 K_h_1), _, (world_9 K_h_1), ?_⟩
    refine ⟨congrArg Prod.fst (world_4 K_h_1), ixs (world_4 K_h_1) k11 (by decide), ?_⟩
    try simp only [aI_wAL, fI_wAL, aL_wA, aL_wF, aI_wA_ne, aI_wF_ne, fI_wA_ne, fI_wF_ne, fI_wF_nk, aL_wAL_ne, J_sameA, J_sameF, aL_same, Nat.add_left_cancel_iff, Nat.add_eq_left, Nat.left_eq_add, not_false_eq_true, Nat.reduceEqDiff, ne_0, ne_1, ne_2, ne_3, ne_4, ne_5, ne_6, Nat.reduceAdd]
    refine ⟨congrArg Prod.fst (ls246 C_h), ixs (ls246 C_h) (by decide) (by decide), ?_⟩
    refine ⟨(ls241 C_h), _, (lr241_4 C_h), ?_⟩
    refine ⟨congrArg Prod.fst (ls246 C_h), ixs (ls246 C_h) (by decide) (by decide), ?_⟩
    exact w
  · have t2 : ¬ fI h a 2 ≤ x8 := (fun e => c1 ((Jle (rg_toInt _) k3).mpr e))
    replace w := w.2 t2
    obtain ⟨k30, w⟩ := w
    refine ⟨fun c28 => ?_, fun c28 => ?_⟩
    · have t29 : x8 = x3 := ((Jeq k3 k30).mp c28)
      replace w := w.1 t29
      refine ⟨fun _ => ?_, fun c31 => absurd ((Jeq k3 k30).mpr t29) c31⟩
      exact w
    · have t29 : ¬ x8 = x3 := (fun e => c28 ((Jeq k3 k30).mpr e))
      replace w := w.2 t29
      refine ⟨(world_0 K_h_1), _, (world_6 K_h_1), ?_⟩
      obtain ⟨k46, w⟩ := w
      refine ⟨congrArg Prod.fst (world_1 K_h_1), ixs (world_1 K_h_1) k46 (by decide), ?_⟩
      obtain ⟨k49, w⟩ := w
      refine ⟨fun c47 => ?_, fun c47 => ?_⟩
      · have t48 : ¬ aI h (b + 1) x8 = x5 := (fun e => c47 ((Jeq (rg_toInt _) k49).mpr e))
        replace w := w.1 t48
        refine ⟨fun c50 => absurd c50 (fun e => t29 ((Jeq k3 k30).mp e)), fun _ => ?_⟩
        refine ⟨(ls241 C_h), _, (lr241_0 C_h), ?_⟩
        refine ⟨congrArg Prod.fst (ls242 C_h), ixs (ls242 C_h) k46 (by decide), ?_⟩
        refine ⟨fun c53 => ?_, fun c53 => ?_⟩
        · have t54 : ¬ aI h 242 x8 = x5 := (fun e => c53 ((Jeq (rg_toInt _) k49).mpr e))
          replace w := w.1 t54
          exact w
        · have t54 : aI h 242 x8 = x5 := ((Jeq (rg_toInt _) k49).mp (Classical.byContradiction c53))
          replace w := w.2 t54
          refine ⟨(plan_0 K_h_0), _, (plan_11 K_h_0), ?_⟩
          refine ⟨(world_0 K_h_1), _, (world_6 K_h_1), ?_⟩
          refine ⟨congrArg Prod.fst (world_1 K_h_1), ixs (world_1 K_h_1) k46 (by decide), ?_⟩
          obtain ⟨k57, w⟩ := w
          refine ⟨congrArg Prod.fst (plan_1 K_h_0), ixs (plan_1 K_h_0) k57 (by decide), ?_⟩
          refine ⟨(plan_0 K_h_0), _, (plan_11 K_h_0), ?_⟩
          obtain ⟨k59, w⟩ := w
          refine ⟨congrArg Prod.fst (plan_1 K_h_0), ixs (plan_1 K_h_0) k59 (by decide), ?_⟩
          refine ⟨fun c60 => ?_, fun c60 => ?_⟩
          · have t61 : aI h (a + 1) (aI h (b + 1) x8) ≤ aI h (a + 1) x5 := ((Jle (rg_toInt _) (rg_toInt _)).mp c60)
            replace w := w.1 t61
            exact w
          · have t61 : ¬ aI h (a + 1) (aI h (b + 1) x8) ≤ aI h (a + 1) x5 := (fun e => c60 ((Jle (rg_toInt _) (rg_toInt _)).mpr e))
            replace w := w.2 t61
            exact w
      · have t48 : aI h (b + 1) x8 = x5 := ((Jeq (rg_toInt _) k49).mp (Classical.byContradiction c47))
        replace w := w.2 t48
        refine ⟨fun c62 => absurd c62 (fun e => t29 ((Jeq k3 k30).mp e)), fun _ => ?_⟩
        refine ⟨(ls241 C_h), _, (lr241_0 C_h), ?_⟩
        refine ⟨congrArg Prod.fst (ls242 C_h), ixs (ls242 C_h) k46 (by decide), ?_⟩
        refine ⟨fun c65 => ?_, fun c65 => ?_⟩
        · have t66 : ¬ aI h 242 x8 = x5 := (fun e => c65 ((Jeq (rg_toInt _) k49).mpr e))
          replace w := w.1 t66
          exact w
        · have t66 : aI h 242 x8 = x5 := ((Jeq (rg_toInt _) k49).mp (Classical.byContradiction c65))
          replace w := w.2 t66
          refine ⟨(plan_0 K_h_0), _, (plan_11 K_h_0), ?_⟩
          refine ⟨(world_0 K_h_1), _, (world_6 K_h_1), ?_⟩
          refine ⟨congrArg Prod.fst (world_1 K_h_1), ixs (world_1 K_h_1) k46 (by decide), ?_⟩
          obtain ⟨k69, w⟩ := w
          refine ⟨congrArg Prod.fst (plan_1 K_h_0), ixs (plan_1 K_h_0) k69 (by decide), ?_⟩
          refine ⟨(plan_0 K_h_0), _, (plan_11 K_h_0), ?_⟩
          obtain ⟨k71, w⟩ := w
          refine ⟨congrArg Prod.fst (plan_1 K_h_0), ixs (plan_1 K_h_0) k71 (by decide), ?_⟩
          refine ⟨fun c72 => ?_, fun c72 => ?_⟩
          · have t73 : aI h (a + 1) (aI h (b + 1) x8) ≤ aI h (a + 1) x5 := ((Jle (rg_toInt _) (rg_toInt _)).mp c72)
            replace w := w.1 t73
            exact w
          · have t73 : ¬ aI h (a + 1) (aI h (b + 1) x8) ≤ aI h (a + 1) x5 := (fun e => c72 ((Jle (rg_toInt _) (rg_toInt _)).mpr e))
            replace w := w.2 t73
            exact w
theorem bI_1 (P : Prop) : (bI P = 1) = P := by
  apply propext
  constructor
  · intro h
    by_cases q : P
    · exact q
    · rw [bI_neg q] at h; omega
  · exact bI_pos
theorem m91 {X : Cst} {d : Nat} {a b : Nat} {p : Int} {S : Int → Int} {h : AH} {Q : Post} (C : Lay h) (K : PlanAt h a) (L : WorldAt h b) (apa : a = 4 ∨ a = 4 ∨ a = 53 ∨ 281 ≤ a) (apb : b = 64 ∨ b = 114) (hd : 3 ≤ d) (P : PlanRep h a S) (R : WorldRep h b S) (W : WF 999 S) (hp : 0 ≤ p ∧ p < S 2)
    (hs : ∀ q, 0 ≤ q → q < S 2 → aI h 242 q = stp S (nightP S) (pS S q 0) (pS S q 1))
    (k : ∀ h', SH h h' → (Fr (fun c _ => c = 246) h h' ∧ ∀ k, 0 ≤ k → k < 12 → aI h' 246 k = wd S (nightP S) p k) → Q none h') : Ex X PG d 91 0 [some (.ref 241), some (.ref a), some (.ref b), some (.int (J p)), none, none, none, none, none] [] h Q := by
  obtain ⟨d, rfl⟩ : ∃ e, d = e + 1 := ⟨d - 1, by omega⟩
  have bb := W.1
  unfold WFb at bb
  have pp := W.2.1 p hp.1 hp.2
  have rp := R.1 p hp.1 hp.2
  have hr := bI_or (nightP S)
  have lp : ∀ (n : Nat) (i : Int), S 2 - i = n → 0 ≤ i → Ex X PG (d + 1) 91 27 [some (.ref 241), some (.ref a), some (.ref b), some (.int (J p)), some (.int (J (bI (nightP S)))), some (.int (J (pS S p 0))), some (.int (J (cnt (fun q => ¬ q = p ∧ pS S q 0 = pS S p 0) i))), some (.int (J (cnt (askP S (nightP S) p) i))), some (.int (J i))] [] h Q := by
    intro n
    induction n with
    | zero =>
      intro i h1 h2
      have e : i = S 2 := by omega
      subst e
      have l := P.2.2.2.2.2.2.2.2 (bI (nightP S)) (pS S p 0) (pS S p 1) (by omega) (by omega) (by omega) (by omega) (by omega) (by omega)
      rw [bI_1] at l
      have c1 := cnt_b (fun q => ¬ q = p ∧ pS S q 0 = pS S p 0) (i := S 2) (by omega)
      have c2 := cnt_b (askP S (nightP S) p) (i := S 2) (by omega)
      have lb := lft_b S (nightP S) (pS S p 0) (pS S p 1)
      have ff := W.2.2.1 (pS S p 0) pp.1 (by omega)
      refine r91_27 C K L apa apb (by omega) ?_
      rw [P.1.2.2.1, rp.2.1, rp.2.2.1, rp.2.2.2.1, P.2.2.1 _ pp.1 (by omega), (P.2.2.2.2.1 p hp.1 hp.2).2.2, R.2.2, l]
      refine ⟨by omega, fun _ => ⟨by omega, by omega, by omega, ?_⟩, fun c => absurd (by omega) c⟩
      refine k _ (by exact SH.rf) ⟨?_, fun j j0 j1 => ?_⟩
      · exact ((((((((((((Fr.rf (T := fun c _ => c = 246)).wA rfl).wA rfl).wA rfl).wA rfl).wA rfl).wA rfl).wA rfl).wA rfl).wA rfl).wA rfl).wA rfl).wA rfl
      · rw [aI_wA (by omega), aI_wA (by omega), aI_wA (by omega), aI_wA (by omega), aI_wA (by omega), aI_wA (by omega), aI_wA (by omega), aI_wA (by omega), aI_wA (by omega), aI_wA (by omega), aI_wA (by omega), aI_wA (by omega)]
        have : j = 0 ∨ j = 1 ∨ j = 2 ∨ j = 3 ∨ j = 4 ∨ j = 5 ∨ j = 6 ∨ j = 7 ∨ j = 8 ∨ j = 9 ∨ j = 10 ∨ j = 11 := by omega
        rcases this with rfl | rfl | rfl | rfl | rfl | rfl | rfl | rfl | rfl | rfl | rfl | rfl <;> (repeat (first | rw [uu_eq] | rw [uu_ne (by decide) (by decide) (by decide)])) <;> rfl
    | succ n ih =>
      intro i h1 h2
      have nx := ih (i + 1) (by omega) (by omega)
      rw [cnt_s _ h2, cnt_s _ h2] at nx
      have ri := R.1 i h2 (by omega)
      have pi := W.2.1 i h2 (by omega)
      refine r91_27 C K L apa apb (by omega) ?_
      rw [P.1.2.2.1, ri.1, hs i h2 (by omega), P.2.2.1 _ pi.1 (by omega), P.2.2.1 _ pp.1 (by omega)]
      refine ⟨by omega, fun c => absurd c (by omega), fun _ => ⟨by omega, fun c => ?_, fun c => ⟨by omega, by omega, fun c2 => ⟨fun c3 => ?_, fun c3 => ⟨by omega, by omega, fun c4 => ?_, fun c4 => ?_⟩⟩, fun c2 => ⟨fun c3 => ?_, fun c3 => ⟨by omega, by omega, fun c4 => ?_, fun c4 => ?_⟩⟩⟩⟩⟩
      · rw [bI_neg (P := ¬ i = p ∧ pS S i 0 = pS S p 0) (fun z => z.1 c), bI_neg (P := askP S (nightP S) p i) (fun z => z.1 c), Int.add_zero, Int.add_zero] at nx; exact nx
      · rw [bI_neg (P := ¬ i = p ∧ pS S i 0 = pS S p 0) (fun z => c2 z.2), bI_neg (P := askP S (nightP S) p i) (fun z => c3 z.2.1), Int.add_zero, Int.add_zero] at nx; exact nx
      · rw [bI_neg (P := ¬ i = p ∧ pS S i 0 = pS S p 0) (fun z => c2 z.2), bI_neg (P := askP S (nightP S) p i) (fun z => by have := z.2.2; omega), Int.add_zero, Int.add_zero] at nx; exact nx
      · rw [bI_neg (P := ¬ i = p ∧ pS S i 0 = pS S p 0) (fun z => c2 z.2), bI_pos (P := askP S (nightP S) p i) ⟨c, c3, by omega⟩, Int.add_zero] at nx; exact nx
      · rw [bI_pos (P := ¬ i = p ∧ pS S i 0 = pS S p 0) ⟨c, c2⟩, bI_neg (P := askP S (nightP S) p i) (fun z => c3 z.2.1), Int.add_zero] at nx; exact nx
      · rw [bI_pos (P := ¬ i = p ∧ pS S i 0 = pS S p 0) ⟨c, c2⟩, bI_neg (P := askP S (nightP S) p i) (fun z => by have := z.2.2; omega), Int.add_zero] at nx; exact nx
      · rw [bI_pos (P := ¬ i = p ∧ pS S i 0 = pS S p 0) ⟨c, c2⟩, bI_pos (P := askP S (nightP S) p i) ⟨c, c3, by omega⟩] at nx; exact nx
  refine r91_0 C K L apa apb (S := S) (by omega) ?_
  rw [R.2.2, rp.1, nightM_P]
  refine ⟨P, by omega, by omega, ?_⟩
  exact lp (S 2).toNat 0 (by omega) (by omega)
-- OutwardDoors$Mover.target(LOutwardDoors$Plan;LOutwardDoors$World;IJ)I at 0
set_option maxRecDepth 20000 in
set_option maxHeartbeats 4000000 in
theorem r96_0 {X : Cst} {d : Nat} {a : Nat} {b : Nat} {x3 : Int} {x4 : Int64} {S : Int → Int} {h : AH} {Q : Post} (C_h : Lay h) (K_h_0 : PlanAt h a) (K_h_1 : WorldAt h b) (hd : 2 ≤ d)
  (w : ((lcm x4 (0 : Int64) ≤ 0 → (PlanRep h a S) ∧ (0 ≤ (fI h b 5) ∧ (fI h b 5) < 2147483648) ∧ (0 ≤ x3 ∧ x3 < 4) ∧ (0 ≤ (bI (nightM S (fI h b 5))) * 8 + (aI h (b + 1) x3) ∧ (bI (nightM S (fI h b 5))) * 8 + (aI h (b + 1) x3) < 16) ∧ ((0 ≤ lcm x4 (0 : Int64) → Q (some (.int (J (-1)))) h) ∧ (¬ 0 ≤ lcm x4 (0 : Int64) → ((aI h (a + 9) ((bI (nightM S (fI h b 5))) * 8 + (aI h (b + 1) x3)) = 0 → Q (some (.int (J (-1)))) h) ∧ (¬ aI h (a + 9) ((bI (nightM S (fI h b 5))) * 8 + (aI h (b + 1) x3)) = 0 → (0 < (aI h (a + 9) ((bI (nightM S (fI h b 5))) * 8 + (aI h (b + 1) x3))) ∧ (aI h (a + 9) ((bI (nightM S (fI h b 5))) * 8 + (aI h (b + 1) x3))) < 16384) ∧ (0 ≤ lowb (aI h (a + 9) ((bI (nightM S (fI h b 5))) * 8 + (aI h (b + 1) x3))) ∧ lowb (aI h (a + 9) ((bI (nightM S (fI h b 5))) * 8 + (aI h (b + 1) x3))) < 14) ∧ Q (some (.int (J (aI h (a + 3) (lowb (aI h (a + 9) ((bI (nightM S (fI h b 5))) * 8 + (aI h (b + 1) x3)))))))) h))))) ∧ (¬ lcm x4 (0 : Int64) ≤ 0 → (0 ≤ x3 ∧ x3 < 4) ∧ Q (some (.int (J (aI h 242 x3)))) h))) :
    Ex X PG (d + 1) 96 0 [some (.ref 241), some (.ref a), some (.ref b), some (.int (J x3)), some (.long x4), none, none] [] h Q := by
  refine wpx_ok (cut := []) 28 d 96 0 _ _ _ _ ?_
  show (((lg_cmp x4 (0 : Int64)) ≤ (J 0) → hs h b = (0, 9) ∧ hs h a = (0, 2) ∧ Ex X PG d 77 0 [some (.ref a), some (.int (hF h b 5)), none] [] h (fun v3 h4 => ∃ r5, v3 = some (.int r5) ∧ hs h4 b = (0, 9) ∧ ∃ q8, hR h4 b 0 = some q8 ∧ (hs h4 q8).1 = 1 ∧ ix (J x3) (hs h4 q8).2 ∧ hs h4 a = (0, 2) ∧ Ex X PG d 97 0 [some (.ref a), some (.int r5), some (.int (hI h4 q8 (Int32.toNatClampNeg (J x3))))] [] h4 (fun v10 h11 => ∃ r12, v10 = some (.int r12) ∧ (((J 0) ≤ (lg_cmp x4 (0 : Int64)) → Q (some (.int (J (-1)))) h11) ∧ (¬ ((J 0) ≤ (lg_cmp x4 (0 : Int64))) → ((r12 = (J 0) → Q (some (.int (J (-1)))) h11) ∧ (¬ (r12 = (J 0)) → hs h11 a = (0, 2) ∧ ∃ q18, hR h11 a 8 = some q18 ∧ Ex X PG d 98 0 [some (.int r12)] [] h11 (fun v19 h20 => ∃ r21, v19 = some (.int r21) ∧ (hs h20 q18).1 = 1 ∧ ix r21 (hs h20 q18).2 ∧ Q (some (.int (hI h20 q18 (Int32.toNatClampNeg r21)))) h20)))))))) ∧ (¬ ((lg_cmp x4 (0 : Int64)) ≤ (J 0)) → hs h 241 = (0, 1) ∧ ∃ q24, hR h 241 0 = some q24 ∧ (hs h q24).1 = 1 ∧ ix (J x3) (hs h q24).2 ∧ Q (some (.int (hI h q24 (Int32.toNatClampNeg (J x3))))) h))
  try simp only [aI_wAL, fI_wAL, aL_wA, aL_wF, aI_wA_ne, aI_wF_ne, fI_wA_ne, fI_wF_ne, fI_wF_nk, aL_wAL_ne, J_sameA, J_sameF, aL_same, Nat.add_left_cancel_iff, Nat.add_eq_left, Nat.left_eq_add, not_false_eq_true, Nat.reduceEqDiff, Nat.reduceAdd, J_add, J_sub, J_mul, J_neg, J_and, J_or, J_xor, J_shl, J_shr, J_div, J_i2b, J_i2l, J_l2i, J_lcm, J_max, J_min, J_nab, J_nao, rdA, rdF, rdL, wA_fold, wF_fold, wL_fold, wC_fold]
  refine ⟨fun c1 => ?_, fun c1 => ?_⟩
  · have t2 : lcm x4 (0 : Int64) ≤ 0 := ((Jle (rg_toInt _) (by decide)).mp c1)
    replace w := w.1 t2
    refine ⟨(world_0 K_h_1), ?_⟩
    refine ⟨(plan_0 K_h_0), ?_⟩
    obtain ⟨k6, w⟩ := w
    obtain ⟨k7, w⟩ := w
    refine m77 (h := h) (a := a) (m := (fI h b 5)) (S := S) C_h K_h_0 (by omega) k6 k7 ?_
    refine ⟨_, rfl, ?_⟩
    try simp only [aI_wAL, fI_wAL, aL_wA, aL_wF, aI_wA_ne, aI_wF_ne, fI_wA_ne, fI_wF_ne, fI_wF_nk, aL_wAL_ne, J_sameA, J_sameF, aL_same, Nat.add_left_cancel_iff, Nat.add_eq_left, Nat.left_eq_add, not_false_eq_true, Nat.reduceEqDiff, Nat.reduceAdd, J_add, J_sub, J_mul, J_neg, J_and, J_or, J_xor, J_shl, J_shr, J_div, J_i2b, J_i2l, J_l2i, J_lcm, J_max, J_min, J_nab, J_nao, rdA, rdF, rdL, wA_fold, wF_fold, wL_fold, wC_fold]
    refine ⟨(world_0 K_h_1), _, (world_6 K_h_1), ?_⟩
    obtain ⟨k9, w⟩ := w
    refine ⟨congrArg Prod.fst (world_1 K_h_1), ixs (world_1 K_h_1) k9 (by decide), ?_⟩
    refine ⟨(plan_0 K_h_0), ?_⟩
    obtain ⟨k13, w⟩ := w
    refine m97 (h := h) (a := a) (r := (bI (nightM S (fI h b 5)))) (x := (aI h (b + 1) x3)) C_h K_h_0 (by omega) k13 ?_
    refine ⟨_, rfl, ?_⟩
    try simp only [aI_wAL, fI_wAL, aL_wA, aL_wF, aI_wA_ne, aI_wF_ne, fI_wA_ne, fI_wF_ne, fI_wF_nk, aL_wAL_ne, J_sameA, J_sameF, aL_same, Nat.add_left_cancel_iff, Nat.add_eq_left, Nat.left_eq_add, not_false_eq_true, Nat.reduceEqDiff, Nat.reduceAdd, J_add, J_sub, J_mul, J_neg, J_and, J_or, J_xor, J_shl, J_shr, J_div, J_i2b, J_i2l, J_l2i, J_lcm, J_max, J_min, J_nab, J_nao, rdA, rdF, rdL, wA_fold, wF_fold, wL_fold, wC_fold]
    refine ⟨fun c14 => ?_, fun c14 => ?_⟩
    · have t15 : 0 ≤ lcm x4 (0 : Int64) := ((Jle (by decide) (rg_toInt _)).mp c14)
      replace w := w.1 t15
      exact w
    · have t15 : ¬ 0 ≤ lcm x4 (0 : Int64) := (fun e => c14 ((Jle (by decide) (rg_toInt _)).mpr e))
      replace w := w.2 t15
      refine ⟨fun c16 => ?_, fun c16 => ?_⟩
      · have t17 : aI h (a + 9) ((bI (nightM S (fI h b 5))) * 8 + (aI h (b + 1) x3)) = 0 := ((Jeq (rg_toInt _) (by decide)).mp c16)
        replace w := w.1 t17
        exact w
      · have t17 : ¬ aI h (a + 9) ((bI (nightM S (fI h b 5))) * 8 + (aI h (b + 1) x3)) = 0 := (fun e => c16 ((Jeq (rg_toInt _) (by decide)).mpr e))
        replace w := w.2 t17
        refine ⟨(plan_0 K_h_0), _, (plan_13 K_h_0), ?_⟩
        obtain ⟨k22, w⟩ := w
        refine m98 (h := h) (x := (aI h (a + 9) ((bI (nightM S (fI h b 5))) * 8 + (aI h (b + 1) x3)))) C_h (by omega) k22 ?_
        refine ⟨_, rfl, ?_⟩
        try simp only [aI_wAL, fI_wAL, aL_wA, aL_wF, aI_wA_ne, aI_wF_ne, fI_wA_ne, fI_wF_ne, fI_wF_nk, aL_wAL_ne, J_sameA, J_sameF, aL_same, Nat.add_left_cancel_iff, Nat.add_eq_left, Nat.left_eq_add, not_false_eq_true, Nat.reduceEqDiff, Nat.reduceAdd, J_add, J_sub, J_mul, J_neg, J_and, J_or, J_xor, J_shl, J_shr, J_div, J_i2b, J_i2l, J_l2i, J_lcm, J_max, J_min, J_nab, J_nao, rdA, rdF, rdL, wA_fold, wF_fold, wL_fold, wC_fold]
        obtain ⟨k23, w⟩ := w
        refine ⟨congrArg Prod.fst (plan_3 K_h_0), ixs (plan_3 K_h_0) k23 (by decide), ?_⟩
        exact w
  · have t2 : ¬ lcm x4 (0 : Int64) ≤ 0 := (fun e => c1 ((Jle (rg_toInt _) (by decide)).mpr e))
    replace w := w.2 t2
    refine ⟨(ls241 C_h), _, (lr241_0 C_h), ?_⟩
    obtain ⟨k25, w⟩ := w
    refine ⟨congrArg Prod.fst (ls242 C_h), ixs (ls242 C_h) k25 (by decide), ?_⟩
    exact w
/-- the room into which a person wills to go -/
noncomputable def tgt (S : Int → Int) (n : Int64) (p : Int) : Int :=
  if 0 < n then stp S (nightP S) (pS S p 0) (pS S p 1) else if n < 0 then (if fou S (nightP S) (pS S p 0) = -1 then -1 else fr S (fou S (nightP S) (pS S p 0))) else -1
theorem bt_16384 {x d : Int} (hx : 0 ≤ x ∧ x < 16384) (hd : 0 ≤ d) (h : bt x d) : d < 14 := by
  by_cases q : d < 14
  · exact q
  · unfold bt at h
    rw [Nat.testBit_lt_two_pow (Nat.lt_of_lt_of_le (show x.toNat < 2 ^ 14 by omega) (Nat.pow_le_pow_right (by decide) (by omega)))] at h
    cases h
theorem bt_0 {x : Int} (hx : 0 ≤ x) (h : ∀ d, 0 ≤ d → ¬ bt x d) : x = 0 := by
  have : x.toNat = 0 := by
    apply Nat.eq_of_testBit_eq
    intro i
    rw [Nat.zero_testBit]
    have := h i (by omega)
    unfold bt at this
    rw [Int.toNat_natCast] at this
    cases e : x.toNat.testBit i
    · rfl
    · exact absurd e this
  omega
theorem m96 {X : Cst} {d : Nat} {a b : Nat} {p : Int} {n : Int64} {S : Int → Int} {h : AH} {Q : Post} (C : Lay h) (K : PlanAt h a) (L : WorldAt h b) (hd : 3 ≤ d) (P : PlanRep h a S) (R : WorldRep h b S) (W : WF 999 S) (hp : 0 ≤ p ∧ p < S 2)
    (hs : aI h 242 p = stp S (nightP S) (pS S p 0) (pS S p 1)) (k : Q (some (.int (J (tgt S n p)))) h) : Ex X PG d 96 0 [some (.ref 241), some (.ref a), some (.ref b), some (.int (J p)), some (.long n), none, none] [] h Q := by
  obtain ⟨d, rfl⟩ : ∃ e, d = e + 1 := ⟨d - 1, by omega⟩
  have bb := W.1
  unfold WFb at bb
  have pp := W.2.1 p hp.1 hp.2
  have rp := R.1 p hp.1 hp.2
  have hr := bI_or (nightP S)
  have od := P.2.2.2.2.2.2.2.1 (bI (nightP S)) (pS S p 0) (by omega) (by omega) (by omega) (by omega)
  rw [bI_1] at od
  have no : 0 < n → ¬ n < 0 := fun x y => by rw [Int64.lt_iff_toInt_lt] at x y; omega
  have lo : lowb (aI h (a + 9) (bI (nightP S) * 8 + pS S p 0)) = fou S (nightP S) (pS S p 0) := by
    refine lst_cong fun u hu => ?_
    constructor
    · intro z; exact (od.2 u hu (bt_16384 od.1 hu z)).mp z
    · intro z; exact (od.2 u hu (by have := z.1; omega)).mpr z
  unfold tgt at k
  refine r96_0 C K L (S := S) (by omega) ?_
  rw [R.2.2, rp.1, nightM_P, hs, lo]
  refine ⟨fun c => ⟨P, by omega, by omega, by omega, fun c2 => ?_, fun c2 => ⟨fun c3 => ?_, fun c3 => ?_⟩⟩, fun c => ⟨by omega, ?_⟩⟩
  · have e : ¬ 0 < n := fun z => by have := lcm_gt0.mpr z; omega
    have e2 : ¬ n < 0 := fun z => by have := lcm_lt0.mpr z; omega
    rw [if_neg e, if_neg e2] at k; exact k
  · have e : ¬ 0 < n := fun z => by have := lcm_gt0.mpr z; omega
    have e2 : n < 0 := lcm_lt0.mp (by omega)
    have f : fou S (nightP S) (pS S p 0) = -1 := lst_no fun u hu z => by
      have := (od.2 u hu (by have := z.1; omega)).mpr z
      rw [c3] at this
      unfold bt at this
      rw [show (0 : Int).toNat = 0 from rfl, Nat.zero_testBit] at this
      cases this
    rw [if_neg e, if_pos e2, if_pos f] at k; exact k
  · have e : ¬ 0 < n := fun z => by have := lcm_gt0.mpr z; omega
    have e2 : n < 0 := lcm_lt0.mp (by omega)
    have f : ¬ fou S (nightP S) (pS S p 0) = -1 := by
      intro f
      refine c3 (bt_0 od.1.1 fun u hu z => ?_)
      have z := (od.2 u hu (bt_16384 od.1 hu z)).mp z
      have m : ∃ v, 0 ≤ v ∧ fouP S (nightP S) (pS S p 0) v ∧ ∀ u, 0 ≤ u → fouP S (nightP S) (pS S p 0) u → v ≤ u := by
        have fin : ∀ (j : Nat), (∃ v : Int, 0 ≤ v ∧ v < j ∧ fouP S (nightP S) (pS S p 0) v ∧ ∀ u, 0 ≤ u → fouP S (nightP S) (pS S p 0) u → v ≤ u) ∨ ∀ v : Int, 0 ≤ v → v < j → ¬ fouP S (nightP S) (pS S p 0) v := by
          intro j
          induction j with
          | zero => exact Or.inr fun v x y => by omega
          | succ j ih =>
            rcases ih with ⟨v, x, y, z⟩ | ih
            · exact Or.inl ⟨v, x, by omega, z⟩
            · by_cases q : fouP S (nightP S) (pS S p 0) j
              · refine Or.inl ⟨j, by omega, by omega, q, fun u hu z => ?_⟩
                by_cases l : u < j
                · exact absurd z (ih u hu l)
                · omega
              · refine Or.inr fun v x y => ?_
                by_cases l : v = j
                · subst l; exact q
                · exact ih v x (by omega)
        rcases fin (u.toNat + 1) with ⟨v, x, _, y⟩ | no
        · exact ⟨v, x, y⟩
        · exact absurd z (no u hu (by omega))
      obtain ⟨v, v0, v1, v2⟩ := m
      have : fou S (nightP S) (pS S p 0) = v := lst_eq v0 v1 v2
      omega
    have fb := lst_or (fouP S (nightP S) (pS S p 0))
    have fb : fou S (nightP S) (pS S p 0) = -1 ∨ 0 ≤ fou S (nightP S) (pS S p 0) ∧ fouP S (nightP S) (pS S p 0) (fou S (nightP S) (pS S p 0)) := fb
    have fb := fb.resolve_left f
    have fl := fb.2.1
    rw [(P.2.2.2.1 _ fb.1 fl).2]
    rw [if_neg e, if_pos e2, if_neg f] at k
    exact ⟨by omega, by omega, k⟩
  · have e : 0 < n := lcm_gt0.mp (by omega)
    rw [if_pos e] at k; exact k
