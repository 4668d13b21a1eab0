/-! THE CLASS: settle, least, price. -/
theorem m121q {X : Cst} {d pl co ne be ln m : Nat} {S : Int → Int} {N b cur clk : Int} {f0 f : Int → Int} {G : (Int → Int) → Prop} {W Z : Int → Prop} {ts : Int → Int} {h : AH} {Q : Post}
    (C : Lay h) (K : PlanAt h pl) (B : PriAt h pl co ne be ln) (ap : apP pl co ne be) (apl : pl = 4 ∨ pl = 53 ∨ 281 ≤ pl) (hd : 6 ≤ d) (hm : m ≤ 5) (h2 : (m : Int) = S 2) (W' : WF N S) (hl : (8 : Int) ^ m ≤ ln) (hc : 0 ≤ cur ∧ cur < 2000000) (Bs : Basp h pl S (nightP S) m (-1)) (pp : fI h 250 8 = b) (kf : Kf m (S 0) f) (zf : Z (enc 8 m f)) (z50 : cur + 50 ≤ 50 * cnt Z (8 ^ m))
    (D : DJ S m b f0 G h co ne be cur W Z ts clk) (R : RX S m b h co (fun x => Z x ∧ ¬ x = enc 8 m f)) (cf : aI h co (enc 8 m f) = cur)
    (k : ∀ h' W' ts' clk', Fr (TAw co ne be) h h' → DJ S m b f0 G h' co ne be cur W' Z ts' clk' → RX S m b h' co Z → Q none h') : Ex X PG d 121 0 [some (.ref 250), some (.int (J (enc 8 m f))), none, none, none] [] h Q := by
  have b0 := W'.1
  unfold WFb at b0
  have app := ap
  obtain ⟨p1, p2, p3, ⟨p4, p5, p6⟩, p7, p8, p9⟩ := app
  refine m121p (J' := fun _ h' => JP h S m b f0 G co ne be cur Z f h') (Rd := fun p e q g h' => Kf m (S 0) g → aI h' co (enc 8 m g) ≤ cur + wt S b p) (k0 := -1000) (w := -1) (t := nightP S) C K B ap (by omega) hm W' kf ?_ (fun _ _ _ _ j => j) ?_ rfl (by decide) ⟨W, ts, clk, Fr.rf, D, R, cf⟩ ?_
  · rintro k' h' ⟨V, ts', clk', F, _⟩
    refine ⟨F.1, Bs.1.fr F (fun c k z => by unfold TAw TLv at z; omega), ?_, ?_, ?_⟩
    · rw [F.f 250 1 (fun z => by unfold TAw TLv at z; omega)]; exact Bs.2.1
    · rw [F.f 250 2 (fun z => by unfold TAw TLv at z; omega)]; exact Bs.2.2.1
    · rw [F.f 250 3 (fun z => by unfold TAw TLv at z; omega)]; exact Bs.2.2.2
  · intro p e q g lb d' hd' k1 h1 Q1 _ j kk
    refine m126 C K B ap hd' hm h2 W' hl hc Bs.1 pp kf zf z50 apl lb j (fun h2 s2 j2 r2 o2 => kk h2 s2 j2 (fun _ => r2) (fun p' e' q' g' r kg => ?_))
    have eg := enc_b (b := 8) (by decide) m g' (kg.up b0.2.1).1
    have := o2 _ eg.1 eg.2
    have := r kg
    omega
  · rintro h' s' ⟨V, ts', clk', F, D', R', cf'⟩ rd
    refine k h' V ts' clk' F D' (fun f' kf' zf' p e q g lb => ?_)
    by_cases c : enc 8 m f' = enc 8 m f
    · have ff : f' = f := enc_inj (b := 8) (by decide) (kf'.up b0.2.1) (kf.up b0.2.1) c
      subst ff
      have kg := Lbl_K W' lb kf'
      have := rd p e q g lb kg
      have wb := wt_b W' b (p := p) (by have := Lbl_rg lb; omega)
      rw [cf']
      exact ⟨by omega, this⟩
    · exact R' f' kf' ⟨zf', c⟩ p e q g lb
-- OutwardDoors$Passings.states()I at 0
set_option maxRecDepth 20000 in
set_option maxHeartbeats 4000000 in
theorem r116p_0 {X : Cst} {d : Nat}  {h : AH} {Q : Post} (C_h : Lay h)
  (w : Q (some (.int (J (shl 1 (iand (3 * (fI h 250 2)) 31))))) h) :
    Ex X PG (d + 1) 116 0 [some (.ref 250)] [] h Q := by
  refine wpx_ok (cut := []) 7 d 116 0 _ _ _ _ ?_
  show (hs h 250 = (0, 3) ∨ hs h 250 = (0, 7)) ∧ Q (some (.int ((J 1) <<< (((J 3) * (hF h 250 2)) &&& J 31)))) h
  try simp only [aI_wAL, fI_wAL, aL_wA, aL_wF, aI_wA_ne, aI_wF_ne, fI_wA_ne, fI_wF_ne, fI_wF_nk, aL_wAL_ne, J_sameA, J_sameF, aL_same, Nat.add_left_cancel_iff, Nat.add_eq_left, Nat.left_eq_add, not_false_eq_true, Nat.reduceEqDiff, Nat.reduceAdd, J_add, J_sub, J_mul, J_neg, J_and, J_or, J_xor, J_shl, J_shr, J_div, J_i2b, J_i2l, J_l2i, J_lcm, J_max, J_min, J_nab, J_nao, rdA, rdF, rdL, wA_fold, wF_fold, wL_fold, wC_fold]
  refine ⟨(Or.inl (ls250 C_h)), ?_⟩
  exact w
theorem m116p {X : Cst} {d m : Nat} {h : AH} {Q : Post} (C : Lay h) (hd : 1 ≤ d) (hm : m ≤ 5) (e : fI h 250 2 = m) (k : Q (some (.int (J (8 ^ m)))) h) : Ex X PG d 116 0 [some (.ref 250)] [] h Q := by
  obtain ⟨d, rfl⟩ : ∃ e, d = e + 1 := ⟨d - 1, by omega⟩
  refine r116p_0 C ?_
  rw [e, shl_1 (by omega), show (3 * (m : Int)).toNat = 3 * m by omega, pow_8]
  exact k
-- OutwardDoors$Pricer.settle(II)Z at 0
set_option maxRecDepth 20000 in
set_option maxHeartbeats 4000000 in
theorem r146_0 {X : Cst} {d : Nat} {x1 : Int} {x2 : Int} {pl : Nat} {h : AH} {Q : Post} (C_h : Lay h) (K_h_0 : PlanAt h pl) {co ne be ln : Nat} (B_h : PriAt h pl co ne be ln) (ap : (co = 251 ∨ 281 ≤ co) ∧ (ne = 252 ∨ 281 ≤ ne) ∧ (be = 253 ∨ 281 ≤ be) ∧ (¬ co = ne ∧ ¬ co = be ∧ ¬ ne = be) ∧ (co < pl ∨ pl + 10 < co) ∧ (ne < pl ∨ pl + 10 < ne) ∧ (be < pl ∨ pl + 10 < be))
  (w : Ex X PG (d + 1) 146 8 [some (.ref 250), some (.int (J x1)), some (.int (J x2)), some (.int (J (x1 - idv x1 51 * 51))), some (.int (J 0)), none] [] h Q) :
    Ex X PG (d + 1) 146 0 [some (.ref 250), some (.int (J x1)), some (.int (J x2)), none, none, none] [] h Q := by
  refine wpx_ok (cut := [8]) 6 d 146 0 _ _ _ _ ?_
  show ¬ (J 51) = J 0 ∧ Ex X PG (d + 1) 146 8 [some (.ref 250), some (.int (J x1)), some (.int (J x2)), some (.int ((J x1) - (J x1) / (J 51) * (J 51))), some (.int (J 0)), none] [] h Q
  try simp only [aI_wAL, fI_wAL, aL_wA, aL_wF, aI_wA_ne, aI_wF_ne, fI_wA_ne, fI_wF_ne, fI_wF_nk, aL_wAL_ne, J_sameA, J_sameF, aL_same, Nat.add_left_cancel_iff, Nat.add_eq_left, Nat.left_eq_add, not_false_eq_true, Nat.reduceEqDiff, Nat.reduceAdd, J_add, J_sub, J_mul, J_neg, J_and, J_or, J_xor, J_shl, J_shr, J_div, J_i2b, J_i2l, J_l2i, J_lcm, J_max, J_min, J_nab, J_nao, rdA, rdF, rdL, wA_fold, wF_fold, wL_fold, wC_fold]
  refine ⟨by decide, ?_⟩
  exact w
-- OutwardDoors$Pricer.settle(II)Z at 8
set_option maxRecDepth 20000 in
set_option maxHeartbeats 4000000 in
theorem r146_8 {X : Cst} {d : Nat} {x1 : Int} {x2 : Int} {x3 : Int} {x4 : Int} {l5 : Option Value} {pl : Nat} {h : AH} {Q : Post} (C_h : Lay h) (K_h_0 : PlanAt h pl) {co ne be ln : Nat} (B_h : PriAt h pl co ne be ln) (ap : (co = 251 ∨ 281 ≤ co) ∧ (ne = 252 ∨ 281 ≤ ne) ∧ (be = 253 ∨ 281 ≤ be) ∧ (¬ co = ne ∧ ¬ co = be ∧ ¬ ne = be) ∧ (co < pl ∨ pl + 10 < co) ∧ (ne < pl ∨ pl + 10 < ne) ∧ (be < pl ∨ pl + 10 < be)) (hd : 1 ≤ d)
  (w : Ex X PG d 116 0 [some (.ref 250)] [] h (fun v1 h2 => ∃ r3 : Int, (-2147483648 ≤ r3 ∧ r3 < 2147483648) ∧ v1 = some (.int (J r3)) ∧ SH h h2 ∧ (-2147483648 ≤ x4 ∧ x4 < 2147483648) ∧ ((r3 ≤ x4 → Q (some (.int (J 0))) h2) ∧ (¬ r3 ≤ x4 → (0 ≤ x3 ∧ x3 < 51) ∧ ((aI h2 254 x3 = (-1) → Q (some (.int (J 0))) h2) ∧ (¬ aI h2 254 x3 = (-1) → Ex X PG d 129 0 [some (.ref 250), some (.int (J (aI h2 254 x3)))] [] h2 (fun v12 h13 => v12 = none ∧ SH h2 h13 ∧ (0 ≤ (aI h2 254 x3) ∧ (aI h2 254 x3) < 2147483648) ∧ (0 ≤ (fI h13 250 8) ∧ (fI h13 250 8) < 5) ∧ (-2147483648 ≤ x2 ∧ x2 < 2147483648) ∧ ((¬ dgt 8 (aI h2 254 x3) (fI h13 250 8) = x2 → Ex X PG d 121 0 [some (.ref 250), some (.int (J (aI h2 254 x3))), none, none, none] [] h13 (fun v22 h23 => v22 = none ∧ SH h13 h23 ∧ Ex X PG (d + 1) 146 8 [some (.ref 250), some (.int (J x1)), some (.int (J x2)), some (.int (J x3)), some (.int (J (x4 + 1))), some (.int (J (aI h2 254 x3)))] [] h23 Q)) ∧ (dgt 8 (aI h2 254 x3) (fI h13 250 8) = x2 → Q (some (.int (J 1))) h13))))))))) :
    Ex X PG (d + 1) 146 8 [some (.ref 250), some (.int (J x1)), some (.int (J x2)), some (.int (J x3)), some (.int (J x4)), l5] [] h Q := by
  refine wpx_ok (cut := [8]) 29 d 146 8 _ _ _ _ ?_
  show hs h 250 = (0, 3) ∧ Ex X PG d 116 0 [some (.ref 250)] [] h (fun v1 h2 => ∃ r3, v1 = some (.int r3) ∧ ((r3 ≤ (J x4) → (J 0 = J 0 ∨ J 0 = J 1) ∧ Q (some (.int (J 0))) h2) ∧ (¬ (r3 ≤ (J x4)) → hs h2 250 = (0, 3) ∧ ∃ q7, hR h2 250 7 = some q7 ∧ (hs h2 q7).1 = 1 ∧ ix (J x3) (hs h2 q7).2 ∧ (((hI h2 q7 (Int32.toNatClampNeg (J x3))) = (J (-1)) → (J 0 = J 0 ∨ J 0 = J 1) ∧ Q (some (.int (J 0))) h2) ∧ (¬ ((hI h2 q7 (Int32.toNatClampNeg (J x3))) = (J (-1))) → hs h2 250 = (0, 3) ∧ ∃ q11, hR h2 250 7 = some q11 ∧ (hs h2 q11).1 = 1 ∧ ix (J x3) (hs h2 q11).2 ∧ hs h2 250 = (0, 3) ∧ Ex X PG d 129 0 [some (.ref 250), some (.int (hI h2 q11 (Int32.toNatClampNeg (J x3))))] [] h2 (fun v12 h13 => v12 = none ∧ hs h13 250 = (0, 3) ∧ Ex X PG d 122 0 [some (.int (hI h2 q11 (Int32.toNatClampNeg (J x3)))), some (.int (hF h13 250 8))] [] h13 (fun v14 h15 => ∃ r16, v14 = some (.int r16) ∧ ((¬ r16 = (J x2) → hs h15 250 = (0, 3) ∧ Ex X PG d 121 0 [some (.ref 250), some (.int (hI h2 q11 (Int32.toNatClampNeg (J x3)))), none, none, none] [] h15 (fun v22 h23 => v22 = none ∧ Ex X PG (d + 1) 146 8 [some (.ref 250), some (.int (J x1)), some (.int (J x2)), some (.int (J x3)), some (.int ((J x4) + (J 1))), some (.int (hI h2 q11 (Int32.toNatClampNeg (J x3))))] [] h23 Q)) ∧ (¬ (¬ r16 = (J x2)) → (J 1 = J 0 ∨ J 1 = J 1) ∧ Q (some (.int (J 1))) h15)))))))))
  try simp only [aI_wAL, fI_wAL, aL_wA, aL_wF, aI_wA_ne, aI_wF_ne, fI_wA_ne, fI_wF_ne, fI_wF_nk, aL_wAL_ne, J_sameA, J_sameF, aL_same, Nat.add_left_cancel_iff, Nat.add_eq_left, Nat.left_eq_add, not_false_eq_true, Nat.reduceEqDiff, Nat.reduceAdd, J_add, J_sub, J_mul, J_neg, J_and, J_or, J_xor, J_shl, J_shr, J_div, J_i2b, J_i2l, J_l2i, J_lcm, J_max, J_min, J_nab, J_nao, rdA, rdF, rdL, wA_fold, wF_fold, wL_fold, wC_fold]
  refine ⟨(ls250 C_h), ?_⟩
  refine Ex.mono w (Nat.le_refl _) ?_
  rintro v1 h2 ⟨r3, gr3, rfl, s26, w⟩
  refine ⟨_, rfl, ?_⟩
  have C_h2 := Lay_SH s26 C_h
  have K_h2_0 := PlanAt_SH s26 K_h_0
  have B_h2 := PriAt_SH s26 B_h
  try simp only [aI_wAL, fI_wAL, aL_wA, aL_wF, aI_wA_ne, aI_wF_ne, fI_wA_ne, fI_wF_ne, fI_wF_nk, aL_wAL_ne, J_sameA, J_sameF, aL_same, Nat.add_left_cancel_iff, Nat.add_eq_left, Nat.left_eq_add, not_false_eq_true, Nat.reduceEqDiff, Nat.reduceAdd, J_add, J_sub, J_mul, J_neg, J_and, J_or, J_xor, J_shl, J_shr, J_div, J_i2b, J_i2l, J_l2i, J_lcm, J_max, J_min, J_nab, J_nao, rdA, rdF, rdL, wA_fold, wF_fold, wL_fold, wC_fold]
  obtain ⟨k6, w⟩ := w
  refine ⟨fun c4 => ?_, fun c4 => ?_⟩
  · have t5 : r3 ≤ x4 := ((Jle gr3 k6).mp c4)
    replace w := w.1 t5
    exact ⟨(Or.inl (by trivial)), w⟩
  · have t5 : ¬ r3 ≤ x4 := (fun e => c4 ((Jle gr3 k6).mpr e))
    replace w := w.2 t5
    refine ⟨(ls250 C_h2), _, (lr250_7 C_h2), ?_⟩
    obtain ⟨k8, w⟩ := w
    refine ⟨congrArg Prod.fst (ls254 C_h2), ixs (ls254 C_h2) k8 (by decide), ?_⟩
    refine ⟨fun c9 => ?_, fun c9 => ?_⟩
    · have t10 : aI h2 254 x3 = (-1) := ((Jeq (rg_toInt _) (by decide)).mp c9)
      replace w := w.1 t10
      exact ⟨(Or.inl (by trivial)), w⟩
    · have t10 : ¬ aI h2 254 x3 = (-1) := (fun e => c9 ((Jeq (rg_toInt _) (by decide)).mpr e))
      replace w := w.2 t10
      refine ⟨(ls250 C_h2), _, (lr250_7 C_h2), ?_⟩
      refine ⟨congrArg Prod.fst (ls254 C_h2), ixs (ls254 C_h2) k8 (by decide), ?_⟩
      refine ⟨(ls250 C_h2), ?_⟩
      refine Ex.mono w (Nat.le_refl _) ?_
      rintro v12 h13 ⟨rfl, s25, w⟩
      refine ⟨rfl, ?_⟩
      have C_h13 := Lay_SH s25 C_h2
      have K_h13_0 := PlanAt_SH s25 K_h2_0
      have B_h13 := PriAt_SH s25 B_h2
      try simp only [aI_wAL, fI_wAL, aL_wA, aL_wF, aI_wA_ne, aI_wF_ne, fI_wA_ne, fI_wF_ne, fI_wF_nk, aL_wAL_ne, J_sameA, J_sameF, aL_same, Nat.add_left_cancel_iff, Nat.add_eq_left, Nat.left_eq_add, not_false_eq_true, Nat.reduceEqDiff, Nat.reduceAdd, J_add, J_sub, J_mul, J_neg, J_and, J_or, J_xor, J_shl, J_shr, J_div, J_i2b, J_i2l, J_l2i, J_lcm, J_max, J_min, J_nab, J_nao, rdA, rdF, rdL, wA_fold, wF_fold, wL_fold, wC_fold]
      refine ⟨(ls250 C_h13), ?_⟩
      obtain ⟨k17, w⟩ := w
      obtain ⟨k18, w⟩ := w
      refine m122 (h := h13) (s := (aI h2 254 x3)) (p := (fI h13 250 8)) C_h13 (by omega) k17 k18 ?_
      refine ⟨_, rfl, ?_⟩
      try simp only [aI_wAL, fI_wAL, aL_wA, aL_wF, aI_wA_ne, aI_wF_ne, fI_wA_ne, fI_wF_ne, fI_wF_nk, aL_wAL_ne, J_sameA, J_sameF, aL_same, Nat.add_left_cancel_iff, Nat.add_eq_left, Nat.left_eq_add, not_false_eq_true, Nat.reduceEqDiff, Nat.reduceAdd, J_add, J_sub, J_mul, J_neg, J_and, J_or, J_xor, J_shl, J_shr, J_div, J_i2b, J_i2l, J_l2i, J_lcm, J_max, J_min, J_nab, J_nao, rdA, rdF, rdL, wA_fold, wF_fold, wL_fold, wC_fold]
      obtain ⟨k21, w⟩ := w
      refine ⟨fun c19 => ?_, fun c19 => ?_⟩
      · have t20 : ¬ dgt 8 (aI h2 254 x3) (fI h13 250 8) = x2 := (fun e => c19 ((Jeq (dgt_rg _ _ _) k21).mpr e))
        replace w := w.1 t20
        refine ⟨(ls250 C_h13), ?_⟩
        refine Ex.mono w (Nat.le_refl _) ?_
        rintro v22 h23 ⟨rfl, s24, w⟩
        refine ⟨rfl, ?_⟩
        have C_h23 := Lay_SH s24 C_h13
        have K_h23_0 := PlanAt_SH s24 K_h13_0
        have B_h23 := PriAt_SH s24 B_h13
        try simp only [aI_wAL, fI_wAL, aL_wA, aL_wF, aI_wA_ne, aI_wF_ne, fI_wA_ne, fI_wF_ne, fI_wF_nk, aL_wAL_ne, J_sameA, J_sameF, aL_same, Nat.add_left_cancel_iff, Nat.add_eq_left, Nat.left_eq_add, not_false_eq_true, Nat.reduceEqDiff, Nat.reduceAdd, J_add, J_sub, J_mul, J_neg, J_and, J_or, J_xor, J_shl, J_shr, J_div, J_i2b, J_i2l, J_l2i, J_lcm, J_max, J_min, J_nab, J_nao, rdA, rdF, rdL, wA_fold, wF_fold, wL_fold, wC_fold]
        exact w
      · have t20 : dgt 8 (aI h2 254 x3) (fI h13 250 8) = x2 := ((Jeq (dgt_rg _ _ _) k21).mp (Classical.byContradiction c19))
        replace w := w.2 t20
        exact ⟨(Or.inr (by trivial)), w⟩
theorem m146 {X : Cst} {d pl co ne be ln m : Nat} {S : Int → Int} {N b cur gl clk : Int} {f0 : Int → Int} {W Z : Int → Prop} {ts : Int → Int} {h : AH} {Q : Post}
    (C : Lay h) (K : PlanAt h pl) (B : PriAt h pl co ne be ln) (ap : apP pl co ne be) (apl : pl = 4 ∨ pl = 53 ∨ 281 ≤ pl) (hd : 7 ≤ d) (hm : m ≤ 5) (h2 : (m : Int) = S 2) (W' : WF N S) (hl : (8 : Int) ^ m ≤ ln) (hc : 0 ≤ cur ∧ cur < 2000000) (Bs : Basp h pl S (nightP S) m (-1)) (pp : fI h 250 8 = b) (hb : 0 ≤ b ∧ b < m) (gg : -2147483648 ≤ gl ∧ gl < 2147483648) (k0f : Kf m (S 0) f0)
    (D : DJ S m b f0 (fun f => f b = gl) h co ne be cur W Z ts clk) (R : RX S m b h co Z)
    (k0 : ∀ h' W' Z' ts' clk', Fr (TAw co ne be) h h' → DJ S m b f0 (fun f => f b = gl) h' co ne be cur W' Z' ts' clk' → RX S m b h' co Z' → (∀ x, W' x → ¬ aI h' co x = cur) → Q (some (.int (J 0))) h')
    (k1 : ∀ h', Fr (TAw co ne be) h h' → (∃ g k, FC S (nightP S) m b f0 k cur g ∧ g b = gl) → (∀ k c g, FC S (nightP S) m b f0 k c g → g b = gl → cur ≤ c) → Q (some (.int (J 1))) h') : Ex X PG d 146 0 [some (.ref 250), some (.int (J cur)), some (.int (J gl)), none, none, none] [] h Q := by
  obtain ⟨d, rfl⟩ : ∃ e, d = e + 1 := ⟨d - 1, by omega⟩
  have b0 := W'.1
  unfold WFb at b0
  have pw := pw_32k (b := 8) (by decide) (by decide) hm
  have app := ap
  obtain ⟨p1, p2, p3, ⟨p4, p5, p6⟩, p7, p8, p9⟩ := app
  have ks : ∀ h', Fr (TAw co ne be) h h' → Basp h' pl S (nightP S) m (-1) ∧ fI h' 250 8 = b := by
    intro h' F
    refine ⟨⟨Bs.1.fr F (fun c k z => by unfold TAw TLv at z; omega), ?_, ?_, ?_⟩, ?_⟩
    · rw [F.f 250 1 (fun z => by unfold TAw TLv at z; omega)]; exact Bs.2.1
    · rw [F.f 250 2 (fun z => by unfold TAw TLv at z; omega)]; exact Bs.2.2.1
    · rw [F.f 250 3 (fun z => by unfold TAw TLv at z; omega)]; exact Bs.2.2.2
    · rw [F.f 250 8 (fun z => by unfold TAw TLv at z; omega)]; exact pp
  have lp : ∀ (z : Nat) (n : Int) (W Z : Int → Prop) (ts : Int → Int) (clk : Int) (h' : AH) (l5 : Option Value), 8 ^ m - n = z → 0 ≤ n → n ≤ cnt Z (8 ^ m) → Fr (TAw co ne be) h h' → DJ S m b f0 (fun f => f b = gl) h' co ne be cur W Z ts clk → RX S m b h' co Z → Ex X PG (d + 1) 146 8 [some (.ref 250), some (.int (J cur)), some (.int (J gl)), some (.int (J (cur % 51))), some (.int (J n)), l5] [] h' Q := by
    intro z
    induction z with
    | zero =>
      intro n W Z ts clk h' l5 e n0 nz F D R
      have kb := ks h' F
      refine r146_8 (Lay_SH F.1 C) (PlanAt_SH F.1 K) (PriAt_SH F.1 B) ap (by omega) ?_
      refine m116p (Lay_SH F.1 C) (by omega) hm kb.1.2.2.1 ⟨_, by omega, rfl, SH.rf, by omega, fun _ => ?_, fun y => absurd (by omega) y⟩
      have full := cnt_full (P := Z) (N := 8 ^ m) (by omega) (by omega)
      refine k0 h' W Z ts clk F D R (fun x wx => ?_)
      have r := D.1.1.1 x wx
      exact absurd wx (D.2.1 x (full x r.1.1 r.1.2)).2
    | succ z ih =>
      intro n W Z ts clk h' l5 e n0 nz F D R
      have kb := ks h' F
      have C' := Lay_SH F.1 C
      have K' := PlanAt_SH F.1 K
      have B' := PriAt_SH F.1 B
      refine r146_8 C' K' B' ap (by omega) ?_
      refine m116p C' (by omega) hm kb.1.2.2.1 ⟨_, by omega, rfl, SH.rf, by omega, fun y => absurd y (by omega), fun _ => ⟨by omega, fun c1 => ?_, fun c1 => ?_⟩⟩
      · refine k0 h' W Z ts clk F D R (fun x wx e => ?_)
        exact DL_empty D.1.1 c1 (clk - ts x).toNat x wx (by omega) (by rw [e])
      · have f5 := D.1.1.2.2.2.2.1 (cur % 51) (by omega) (by omega) c1
        obtain ⟨D1, D2, D3, D4, D5, D6, D7, D8, D9⟩ := D
        have wx := f5.1
        have c4 := D4 _ wx
        have cx : aI h' co (aI h' 254 (cur % 51)) = cur := by have := f5.2.1; omega
        have rx := (D1.1.1 _ wx).1
        obtain ⟨f, kf, ef, ⟨kn, fc⟩, s0, s50⟩ := D6 _ (Or.inl wx)
        have kf8 := kf.up b0.2.1
        rw [cx] at fc s0 s50
        refine m129 (N := 8 ^ m) C' K' B' ap (by omega) (by omega) D1 wx (fun h1 F1 DL1 => ⟨rfl, F1.1, by omega, ?_⟩)
        have F01 : Fr (TAw co ne be) h h1 := F.tr (F1.mo fun c k z => Or.inr z)
        have kb1 := ks h1 F01
        have ec : aI h1 co = aI h' co := F1.a co (fun k z => by unfold TLv at z; omega)
        rw [kb1.2]
        refine ⟨by omega, gg, ?_⟩
        rw [ef, dgt_enc (by decide) kf8 hb]
        refine ⟨fun c2 => ?_, fun c2 => ?_⟩
        · -- it is settled, and gone from
          have nzx : ¬ Z (enc 8 m f) := fun y => (D2 _ y).2 (by rw [← ef]; exact wx)
          have ca : cnt (fun y => Z y ∨ y = enc 8 m f) (8 ^ m) = cnt Z (8 ^ m) + 1 := cnt_add (p := enc 8 m f) (by omega) (fun q _ _ n => ⟨fun z => Or.inl z, fun z => z.elim (fun y => y) (fun y => absurd y n)⟩) nzx (Or.inr rfl)
          have DJ1 : DJ S m b f0 (fun f => f b = gl) h1 co ne be cur (fun y => W y ∧ ¬ y = enc 8 m f) (fun y => Z y ∨ y = enc 8 m f) ts clk := by
            refine ⟨by rw [← ef]; exact DL1, fun x zx => ?_, fun x x0 x1 => ?_, fun x wx' => by rw [ec]; exact D4 x wx'.1, fun x zx => ?_, fun x hx => ?_, ?_, by rw [ec]; exact D8, fun f' kf' zf' => ?_⟩
            · rcases zx with zx | zx
              · exact ⟨(D2 x zx).1, fun y => (D2 x zx).2 y.1⟩
              · exact ⟨by omega, fun y => y.2 zx⟩
            · rw [ec, D3 x x0 x1]
              by_cases y : x = enc 8 m f
              · exact ⟨fun _ => Or.inr (Or.inr y), fun _ => Or.inl (by rw [y, ← ef]; exact wx)⟩
              · exact ⟨fun q => q.elim (fun q => Or.inl ⟨q, y⟩) (fun q => Or.inr (Or.inl q)), fun q => q.elim (fun q => Or.inl q.1) (fun q => q.elim Or.inr (fun z => absurd z y))⟩
            · rw [ec]
              rcases zx with zx | zx
              · exact D5 x zx
              · rw [zx, ← ef, cx]; exact Int.le_refl _
            · rw [ec, ca]
              have hx' : W x ∨ Z x := by
                rcases hx with hx | hx
                · exact Or.inl hx.1
                · rcases hx with hx | hx
                  · exact Or.inr hx
                  · exact Or.inl (by rw [hx, ← ef]; exact wx)
              obtain ⟨f', kf', ef', fc', s0', s50'⟩ := D6 x hx'
              exact ⟨f', kf', ef', fc', s0', by omega⟩
            · by_cases y : enc 8 m f0 = enc 8 m f
              · exact Or.inr (Or.inr y)
              · rcases D7 with q | q
                · exact Or.inl ⟨q, y⟩
                · exact Or.inr (Or.inl q)
            · rcases zf' with zf' | zf'
              · exact D9 f' kf' zf'
              · have ff : f' = f := enc_inj (b := 8) (by decide) (kf'.up b0.2.1) kf8 zf'
                rw [ff]; exact c2
          have RX1 : RX S m b h1 co (fun x => (Z x ∨ x = enc 8 m f) ∧ ¬ x = enc 8 m f) := by
            intro f' kf' zf' p' d' q' g' l'
            rw [ec]
            exact R f' kf' (zf'.1.elim (fun y => y) (fun y => absurd y zf'.2)) p' d' q' g' l'
          refine m121q (Z := fun y => Z y ∨ y = enc 8 m f) (Lay_SH F01.1 C) (PlanAt_SH F01.1 K) (PriAt_SH F01.1 B) ap apl (by omega) hm h2 W' hl hc kb1.1 kb1.2 kf (Or.inr rfl) (by rw [ca]; omega) DJ1 RX1 (by rw [ec, ← ef]; exact cx) (fun h3 V3 ts3 clk3 F3 D3' R3 => ⟨rfl, F3.1, ?_⟩)
          exact ih (n + 1) V3 _ ts3 clk3 h3 _ (by omega) (by omega) (by rw [ca]; omega) (F01.tr F3) D3' R3
        · refine k1 h1 F01 ⟨f, kn, fc, c2⟩ (fun k c g l gg' => ?_)
          rcases DJ_low (G := fun f => f b = gl) W' hm (by omega) k0f (fun x w => (D4 x w).1) D3 D8 R hc.1 k c g l with ⟨y, _⟩ | ⟨y, _⟩
          · exact absurd gg' (D9 g (FC_K W' k0f k c g l) y)
          · exact y
  refine r146_0 C K B ap ?_
  rw [mod51 (by omega)]
  have cz := cnt_b Z (i := (8 : Int) ^ m) (by omega)
  exact lp ((8 : Int) ^ m).toNat 0 W Z ts clk h none (by omega) (by omega) cz.1 Fr.rf D R
