/-! THE CLASS: fewest, turned, passing. -/
def PoR (h h' : AH) (pl mk qu ln : Nat) (S : Int → Int) (mk' qu' ln' : Nat) : Prop := (∃ m, PoS h h' pl mk qu ln S mk' qu' ln' m) ∧ SeaR h' pl mk' qu' ln'
theorem m132n {X : Cst} {d pl mk qu ln : Nat} {h : AH} {Q : Post} (C : Lay h) (K : PlanAt h pl) (B : SeaAt h pl mk qu ln) (ap : apS pl mk qu) (hd : 1 ≤ d) (f7 : fI h 247 7 = -1) (k : Q (some (.int (J (-2)))) h) : Ex X PG d 132 0 [some (.ref 247), none, none, none] [] h Q := by
  obtain ⟨d, rfl⟩ : ∃ e, d = e + 1 := ⟨d - 1, by omega⟩
  refine r132_0 C K B ap ?_
  rw [f7]
  exact ⟨fun c => absurd rfl c, fun _ => k⟩
theorem KY_lt_T {S : Int → Int} {t : Prop} {m : Nat} {w : Int} {st : Int → Int → Int} {pa : Int → Int} {la : Int → Int × Int × Int} {R T : Int} (L : LogOK S t m w st pa la R T) : ∀ (ks : List Int) (F : Int), 0 ≤ F → F < T → KY pa la R ks F → (ks.length : Int) ≤ F + 1 := by
  intro ks
  induction ks with
  | nil => intro F _ _ k; exact k.elim
  | cons x ks ih =>
    intro F f0 f1 k
    cases ks with
    | nil => simp; omega
    | cons y ks =>
      have p := (L.2.2.1 F k.1 f1).1
      have := ih (pa F) p.1 (by omega) k.2.2
      simp at this ⊢
      omega
-- OutwardDoors.fewest(I)I at 0
set_option maxRecDepth 20000 in
set_option maxHeartbeats 4000000 in
theorem r111_0 {X : Cst} {d : Nat} {x1 : Int} {pl : Nat} {S : Int → Int} {h : AH} {Q : Post} (C_h : Lay h) (K_h_0 : PlanAt h pl) (P_h : hR h 52 0 = some pl) (hd : 2 ≤ d)
  (w : (CS h pl S) ∧ (WF 999 S) ∧ (-2147483648 ≤ x1 ∧ x1 < 2147483648) ∧ (((setP S x1) → Ex X PG d 113 0 [some (.ref 0), some (.int (J x1)), some (.int (J (-1))), none, none, none, none] [] h (fun v9 h10 => v9 = none ∧ GRo h10 pl ∧ Ex X PG d 132 0 [some (.ref 247), none, none, none] [] h10 (fun v12 h13 => ∃ r14 : Int, (-2147483648 ≤ r14 ∧ r14 < 2147483648) ∧ v12 = some (.int (J r14)) ∧ SH h10 h13 ∧ Q (some (.int (J r14))) h13))) ∧ (¬ (setP S x1) → Q (some (.int (J (-1)))) h))) :
    Ex X PG (d + 1) 111 0 [some (.ref 0), some (.int (J x1))] [] h Q := by
  refine wpx_ok (cut := []) 12 d 111 0 _ _ _ _ ?_
  show hs h 0 = (0, 10) ∧ Ex X PG d 112 0 [some (.ref 0), some (.int (J x1))] [] h (fun v1 h2 => ∃ r3, v1 = some (.int r3) ∧ ((¬ r3 = (J 0) → hs h2 0 = (0, 10) ∧ Ex X PG d 113 0 [some (.ref 0), some (.int (J x1)), some (.int (J (-1))), none, none, none, none] [] h2 (fun v9 h10 => v9 = none ∧ hs h10 0 = (0, 10) ∧ ∃ q11, hR h10 0 10 = some q11 ∧ hs h10 q11 = (0, 7) ∧ Ex X PG d 132 0 [some (.ref q11), none, none, none] [] h10 (fun v12 h13 => ∃ r14, v12 = some (.int r14) ∧ Q (some (.int r14)) h13))) ∧ (¬ (¬ r3 = (J 0)) → Q (some (.int (J (-1)))) h2)))
  try simp only [aI_wAL, fI_wAL, aL_wA, aL_wF, aI_wA_ne, aI_wF_ne, fI_wA_ne, fI_wF_ne, fI_wF_nk, aL_wAL_ne, J_sameA, J_sameF, aL_same, Nat.add_left_cancel_iff, Nat.add_eq_left, Nat.left_eq_add, not_false_eq_true, Nat.reduceEqDiff, Nat.reduceAdd, J_add, J_sub, J_mul, J_neg, J_and, J_or, J_xor, J_shl, J_shr, J_div, J_i2b, J_i2l, J_l2i, J_lcm, J_max, J_min, J_nab, J_nao, rdA, rdF, rdL, wA_fold, wF_fold, wL_fold, wC_fold]
  refine ⟨(ls0 C_h), ?_⟩
  obtain ⟨k4, w⟩ := w
  obtain ⟨k5, w⟩ := w
  obtain ⟨k6, w⟩ := w
  refine m112 (h := h) (s := x1) (S := S) (pl := pl) C_h P_h K_h_0 (by omega) k4 k5 k6 ?_
  refine ⟨_, rfl, ?_⟩
  try simp only [aI_wAL, fI_wAL, aL_wA, aL_wF, aI_wA_ne, aI_wF_ne, fI_wA_ne, fI_wF_ne, fI_wF_nk, aL_wAL_ne, J_sameA, J_sameF, aL_same, Nat.add_left_cancel_iff, Nat.add_eq_left, Nat.left_eq_add, not_false_eq_true, Nat.reduceEqDiff, Nat.reduceAdd, J_add, J_sub, J_mul, J_neg, J_and, J_or, J_xor, J_shl, J_shr, J_div, J_i2b, J_i2l, J_l2i, J_lcm, J_max, J_min, J_nab, J_nao, rdA, rdF, rdL, wA_fold, wF_fold, wL_fold, wC_fold]
  refine ⟨fun c7 => ?_, fun c7 => ?_⟩
  · have t8 : (setP S x1) := (Classical.byContradiction fun n => c7 ((bI0 _).mpr n))
    replace w := w.1 t8
    refine ⟨(ls0 C_h), ?_⟩
    refine Ex.mono w (Nat.le_refl _) ?_
    rintro v9 h10 ⟨rfl, ⟨C_h10, K_h10_0, P_h10⟩, w⟩
    refine ⟨rfl, ?_⟩
    try simp only [aI_wAL, fI_wAL, aL_wA, aL_wF, aI_wA_ne, aI_wF_ne, fI_wA_ne, fI_wF_ne, fI_wF_nk, aL_wAL_ne, J_sameA, J_sameF, aL_same, Nat.add_left_cancel_iff, Nat.add_eq_left, Nat.left_eq_add, not_false_eq_true, Nat.reduceEqDiff, Nat.reduceAdd, J_add, J_sub, J_mul, J_neg, J_and, J_or, J_xor, J_shl, J_shr, J_div, J_i2b, J_i2l, J_l2i, J_lcm, J_max, J_min, J_nab, J_nao, rdA, rdF, rdL, wA_fold, wF_fold, wL_fold, wC_fold]
    refine ⟨(ls0 C_h10), _, (lr0_10 C_h10), ?_⟩
    refine ⟨(ls247 C_h10), ?_⟩
    refine Ex.mono w (Nat.le_refl _) ?_
    rintro v12 h13 ⟨r14, gr14, rfl, s15, w⟩
    refine ⟨_, rfl, ?_⟩
    have C_h13 := Lay_SH s15 C_h10
    have K_h13_0 := PlanAt_SH s15 K_h10_0
    have P_h13 := (congrFun (congrFun s15.2 52) 0).trans P_h10
    try simp only [aI_wAL, fI_wAL, aL_wA, aL_wF, aI_wA_ne, aI_wF_ne, fI_wA_ne, fI_wF_ne, fI_wF_nk, aL_wAL_ne, J_sameA, J_sameF, aL_same, Nat.add_left_cancel_iff, Nat.add_eq_left, Nat.left_eq_add, not_false_eq_true, Nat.reduceEqDiff, Nat.reduceAdd, J_add, J_sub, J_mul, J_neg, J_and, J_or, J_xor, J_shl, J_shr, J_div, J_i2b, J_i2l, J_l2i, J_lcm, J_max, J_min, J_nab, J_nao, rdA, rdF, rdL, wA_fold, wF_fold, wL_fold, wC_fold]
    exact w
  · have t8 : ¬ (setP S x1) := ((bI0 _).mp (Classical.byContradiction fun n => c7 n))
    replace w := w.2 t8
    exact w
theorem m111 {X : Cst} {d pl pl0 mk qu ln : Nat} {N s : Int} {S : Int → Int} {h : AH} {Q : Post} (C : Lay h) (P : hR h 52 0 = some pl) (K : PlanAt h pl) (h281 : 281 ≤ hn h) (hpl : pl + 10 < hn h) (hd : 8 ≤ d) (R : CS h pl S) (W : WF N S) (hN : N ≤ 999) (SR : SeaR h pl0 mk qu ln) (ap : apS pl mk qu) (gs : -2147483648 ≤ s ∧ s < 2147483648)
    (k0 : ¬ setP S s → Q (some (.int (J (-1)))) h) (k : setP S s → ∀ h' mk' qu' ln' v, PoR h h' pl mk qu ln S mk' qu' ln' → IsD (Edg S (nightP S) (S 2).toNat (-1)) (atG S s) (nowF S) v → Q (some (.int (J (if v < 0 then -2 else v)))) h') : Ex X PG d 111 0 [some (.ref 0), some (.int (J s))] [] h Q := by
  obtain ⟨d, rfl⟩ : ∃ e, d = e + 1 := ⟨d - 1, by omega⟩
  have b := W.1
  unfold WFb at b
  refine r111_0 (S := S) C K P (by omega) ⟨R, W.up hN, gs, fun c => ?_, fun c => k0 c⟩
  refine m113 C P K h281 hpl (by omega) R W hN SR ap c (by decide) (fun z => absurd rfl z) (fun h' mk' qu' ln' st pa la T F po I s0 hF gF nG f7 => ?_) (fun h' mk' qu' ln' st pa la T po I s0 nG f7 => ?_)
  · obtain ⟨p1, p2, p3, p4, p5, p6, p7, p8, p9⟩ := id po
    refine ⟨rfl, p2, ?_⟩
    obtain ⟨ks, ky⟩ := KY_ex I.2.2.1 (F + 1).toNat F hF.1 hF.2 (by omega)
    have D := IsD_found I.2.2.1 hF I.2.2.2.1 gF nG ky
    rw [s0] at D
    have kl := KY_len ky
    have kt := KY_lt_T I.2.2.1 ks F hF.1 hF.2 ky
    have tl := I.T_le
    have l8 := p4.2.2.2.2.2
    have q := k c h' mk' qu' ln' _ ⟨⟨_, po⟩, I.rest W p4 p5 p6 p7 p8⟩ D
    rw [if_neg (by omega)] at q
    exact m132 p2.1 p2.2.1 p4 p5 (by omega) (by omega) W p8 I hF ky f7 ⟨_, by omega, rfl, SH.rf, q⟩
  · obtain ⟨p1, p2, p3, p4, p5, p6, p7, p8, p9⟩ := id po
    refine ⟨rfl, p2, ?_⟩
    have D := IsD_none I.2.2.1 I.2.2.2.1 nG
    rw [s0] at D
    have q := k c h' mk' qu' ln' _ ⟨⟨_, po⟩, I.rest W p4 p5 p6 p7 p8⟩ D
    rw [if_pos (by decide)] at q
    exact m132n p2.1 p2.2.1 p4 p5 (by omega) f7 ⟨_, by decide, rfl, SH.rf, q⟩
-- OutwardDoors.turned(II)I at 0
set_option maxRecDepth 20000 in
set_option maxHeartbeats 4000000 in
theorem r147_0 {X : Cst} {d : Nat} {x1 : Int} {x2 : Int} {pl : Nat} {S : Int → Int} {h : AH} {Q : Post} (C_h : Lay h) (K_h_0 : PlanAt h pl) (P_h : hR h 52 0 = some pl) (hd : 3 ≤ d)
  (w : (CS h pl S) ∧ (-2147483648 ≤ x1 ∧ x1 < 2147483648) ∧ ((¬ (0 ≤ x1 ∧ x1 < S 1) → Q (some (.int (J (-1)))) h) ∧ ((0 ≤ x1 ∧ x1 < S 1) → (WF 999 S) ∧ (-2147483648 ≤ x2 ∧ x2 < 2147483648) ∧ ((¬ (setP S x2) → Q (some (.int (J (-1)))) h) ∧ ((setP S x2) → (PlanRep h pl S) ∧ (0 ≤ (bI (nightP S)) ∧ (bI (nightP S)) < 2) ∧ (0 ≤ x1 ∧ x1 < 14) ∧ (((x1 < S 1 ∧ opn S ((bI (nightP S)) = 1) x1) → Ex X PG d 113 0 [some (.ref 0), some (.int (J x2)), some (.int (J x1)), none, none, none, none] [] h (fun v28 h29 => v28 = none ∧ GRo h29 pl ∧ Ex X PG d 132 0 [some (.ref 247), none, none, none] [] h29 (fun v31 h32 => ∃ r33 : Int, (-2147483648 ≤ r33 ∧ r33 < 2147483648) ∧ v31 = some (.int (J r33)) ∧ SH h29 h32 ∧ Q (some (.int (J r33))) h32))) ∧ (¬ (x1 < S 1 ∧ opn S ((bI (nightP S)) = 1) x1) → Q (some (.int (J (-1)))) h))))))) :
    Ex X PG (d + 1) 147 0 [some (.ref 0), some (.int (J x1)), some (.int (J x2))] [] h Q := by
  refine wpx_ok (cut := []) 24 d 147 0 _ _ _ _ ?_
  show hs h 0 = (0, 10) ∧ Ex X PG d 84 0 [some (.ref 0), some (.int (J x1))] [] h (fun v1 h2 => ∃ r3, v1 = some (.int r3) ∧ ((r3 = (J 0) → Q (some (.int (J (-1)))) h2) ∧ (¬ (r3 = (J 0)) → hs h2 0 = (0, 10) ∧ Ex X PG d 112 0 [some (.ref 0), some (.int (J x2))] [] h2 (fun v8 h9 => ∃ r10, v8 = some (.int r10) ∧ ((r10 = (J 0) → Q (some (.int (J (-1)))) h9) ∧ (¬ (r10 = (J 0)) → hs h9 0 = (0, 10) ∧ ∃ q15, hR h9 0 5 = some q15 ∧ hs h9 q15 = (0, 6) ∧ ∃ q16, hR h9 q15 0 = some q16 ∧ hs h9 0 = (0, 10) ∧ Ex X PG d 76 0 [some (.ref 0)] [] h9 (fun v17 h18 => ∃ r19, v17 = some (.int r19) ∧ hs h18 q16 = (0, 2) ∧ Ex X PG d 52 0 [some (.ref q16), some (.int r19), some (.int (J x1))] [] h18 (fun v20 h21 => ∃ r22, v20 = some (.int r22) ∧ ((¬ r22 = (J 0) → hs h21 0 = (0, 10) ∧ Ex X PG d 113 0 [some (.ref 0), some (.int (J x2)), some (.int (J x1)), none, none, none, none] [] h21 (fun v28 h29 => v28 = none ∧ hs h29 0 = (0, 10) ∧ ∃ q30, hR h29 0 10 = some q30 ∧ hs h29 q30 = (0, 7) ∧ Ex X PG d 132 0 [some (.ref q30), none, none, none] [] h29 (fun v31 h32 => ∃ r33, v31 = some (.int r33) ∧ Q (some (.int r33)) h32))) ∧ (¬ (¬ r22 = (J 0)) → Q (some (.int (J (-1)))) h21))))))))))
  try simp only [aI_wAL, fI_wAL, aL_wA, aL_wF, aI_wA_ne, aI_wF_ne, fI_wA_ne, fI_wF_ne, fI_wF_nk, aL_wAL_ne, J_sameA, J_sameF, aL_same, Nat.add_left_cancel_iff, Nat.add_eq_left, Nat.left_eq_add, not_false_eq_true, Nat.reduceEqDiff, Nat.reduceAdd, J_add, J_sub, J_mul, J_neg, J_and, J_or, J_xor, J_shl, J_shr, J_div, J_i2b, J_i2l, J_l2i, J_lcm, J_max, J_min, J_nab, J_nao, rdA, rdF, rdL, wA_fold, wF_fold, wL_fold, wC_fold]
  refine ⟨(ls0 C_h), ?_⟩
  obtain ⟨k4, w⟩ := w
  obtain ⟨k5, w⟩ := w
  refine m84 (h := h) (x := x1) (S := S) (pl := pl) C_h P_h K_h_0 (by omega) k4 k5 ?_
  refine ⟨_, rfl, ?_⟩
  try simp only [aI_wAL, fI_wAL, aL_wA, aL_wF, aI_wA_ne, aI_wF_ne, fI_wA_ne, fI_wF_ne, fI_wF_nk, aL_wAL_ne, J_sameA, J_sameF, aL_same, Nat.add_left_cancel_iff, Nat.add_eq_left, Nat.left_eq_add, not_false_eq_true, Nat.reduceEqDiff, Nat.reduceAdd, J_add, J_sub, J_mul, J_neg, J_and, J_or, J_xor, J_shl, J_shr, J_div, J_i2b, J_i2l, J_l2i, J_lcm, J_max, J_min, J_nab, J_nao, rdA, rdF, rdL, wA_fold, wF_fold, wL_fold, wC_fold]
  refine ⟨fun c6 => ?_, fun c6 => ?_⟩
  · have t7 : ¬ (0 ≤ x1 ∧ x1 < S 1) := ((bI0 _).mp c6)
    replace w := w.1 t7
    exact w
  · have t7 : (0 ≤ x1 ∧ x1 < S 1) := (Classical.byContradiction fun n => c6 ((bI0 _).mpr n))
    replace w := w.2 t7
    refine ⟨(ls0 C_h), ?_⟩
    obtain ⟨k11, w⟩ := w
    obtain ⟨k12, w⟩ := w
    refine m112 (h := h) (s := x2) (S := S) (pl := pl) C_h P_h K_h_0 (by omega) k4 k11 k12 ?_
    refine ⟨_, rfl, ?_⟩
    try simp only [aI_wAL, fI_wAL, aL_wA, aL_wF, aI_wA_ne, aI_wF_ne, fI_wA_ne, fI_wF_ne, fI_wF_nk, aL_wAL_ne, J_sameA, J_sameF, aL_same, Nat.add_left_cancel_iff, Nat.add_eq_left, Nat.left_eq_add, not_false_eq_true, Nat.reduceEqDiff, Nat.reduceAdd, J_add, J_sub, J_mul, J_neg, J_and, J_or, J_xor, J_shl, J_shr, J_div, J_i2b, J_i2l, J_l2i, J_lcm, J_max, J_min, J_nab, J_nao, rdA, rdF, rdL, wA_fold, wF_fold, wL_fold, wC_fold]
    refine ⟨fun c13 => ?_, fun c13 => ?_⟩
    · have t14 : ¬ (setP S x2) := ((bI0 _).mp c13)
      replace w := w.1 t14
      exact w
    · have t14 : (setP S x2) := (Classical.byContradiction fun n => c13 ((bI0 _).mpr n))
      replace w := w.2 t14
      refine ⟨(ls0 C_h), _, (lr0_5 C_h), ?_⟩
      refine ⟨(ls52 C_h), _, P_h, ?_⟩
      refine ⟨(ls0 C_h), ?_⟩
      refine m76 (h := h)  (S := S) (pl := pl) C_h P_h K_h_0 (by omega) k4 k11 ?_
      refine ⟨_, rfl, ?_⟩
      try simp only [aI_wAL, fI_wAL, aL_wA, aL_wF, aI_wA_ne, aI_wF_ne, fI_wA_ne, fI_wF_ne, fI_wF_nk, aL_wAL_ne, J_sameA, J_sameF, aL_same, Nat.add_left_cancel_iff, Nat.add_eq_left, Nat.left_eq_add, not_false_eq_true, Nat.reduceEqDiff, Nat.reduceAdd, J_add, J_sub, J_mul, J_neg, J_and, J_or, J_xor, J_shl, J_shr, J_div, J_i2b, J_i2l, J_l2i, J_lcm, J_max, J_min, J_nab, J_nao, rdA, rdF, rdL, wA_fold, wF_fold, wL_fold, wC_fold]
      refine ⟨(plan_0 K_h_0), ?_⟩
      obtain ⟨k23, w⟩ := w
      obtain ⟨k24, w⟩ := w
      obtain ⟨k25, w⟩ := w
      refine m52 (h := h) (a := pl) (r := (bI (nightP S))) (x := x1) (S := S) C_h K_h_0 (by omega) k23 k24 k25 ?_
      refine ⟨_, rfl, ?_⟩
      try simp only [aI_wAL, fI_wAL, aL_wA, aL_wF, aI_wA_ne, aI_wF_ne, fI_wA_ne, fI_wF_ne, fI_wF_nk, aL_wAL_ne, J_sameA, J_sameF, aL_same, Nat.add_left_cancel_iff, Nat.add_eq_left, Nat.left_eq_add, not_false_eq_true, Nat.reduceEqDiff, Nat.reduceAdd, J_add, J_sub, J_mul, J_neg, J_and, J_or, J_xor, J_shl, J_shr, J_div, J_i2b, J_i2l, J_l2i, J_lcm, J_max, J_min, J_nab, J_nao, rdA, rdF, rdL, wA_fold, wF_fold, wL_fold, wC_fold]
      refine ⟨fun c26 => ?_, fun c26 => ?_⟩
      · have t27 : (x1 < S 1 ∧ opn S ((bI (nightP S)) = 1) x1) := (Classical.byContradiction fun n => c26 ((bI0 _).mpr n))
        replace w := w.1 t27
        refine ⟨(ls0 C_h), ?_⟩
        refine Ex.mono w (Nat.le_refl _) ?_
        rintro v28 h29 ⟨rfl, ⟨C_h29, K_h29_0, P_h29⟩, w⟩
        refine ⟨rfl, ?_⟩
        try simp only [aI_wAL, fI_wAL, aL_wA, aL_wF, aI_wA_ne, aI_wF_ne, fI_wA_ne, fI_wF_ne, fI_wF_nk, aL_wAL_ne, J_sameA, J_sameF, aL_same, Nat.add_left_cancel_iff, Nat.add_eq_left, Nat.left_eq_add, not_false_eq_true, Nat.reduceEqDiff, Nat.reduceAdd, J_add, J_sub, J_mul, J_neg, J_and, J_or, J_xor, J_shl, J_shr, J_div, J_i2b, J_i2l, J_l2i, J_lcm, J_max, J_min, J_nab, J_nao, rdA, rdF, rdL, wA_fold, wF_fold, wL_fold, wC_fold]
        refine ⟨(ls0 C_h29), _, (lr0_10 C_h29), ?_⟩
        refine ⟨(ls247 C_h29), ?_⟩
        refine Ex.mono w (Nat.le_refl _) ?_
        rintro v31 h32 ⟨r33, gr33, rfl, s34, w⟩
        refine ⟨_, rfl, ?_⟩
        have C_h32 := Lay_SH s34 C_h29
        have K_h32_0 := PlanAt_SH s34 K_h29_0
        have P_h32 := (congrFun (congrFun s34.2 52) 0).trans P_h29
        try simp only [aI_wAL, fI_wAL, aL_wA, aL_wF, aI_wA_ne, aI_wF_ne, fI_wA_ne, fI_wF_ne, fI_wF_nk, aL_wAL_ne, J_sameA, J_sameF, aL_same, Nat.add_left_cancel_iff, Nat.add_eq_left, Nat.left_eq_add, not_false_eq_true, Nat.reduceEqDiff, Nat.reduceAdd, J_add, J_sub, J_mul, J_neg, J_and, J_or, J_xor, J_shl, J_shr, J_div, J_i2b, J_i2l, J_l2i, J_lcm, J_max, J_min, J_nab, J_nao, rdA, rdF, rdL, wA_fold, wF_fold, wL_fold, wC_fold]
        exact w
      · have t27 : ¬ (x1 < S 1 ∧ opn S ((bI (nightP S)) = 1) x1) := ((bI0 _).mp (Classical.byContradiction fun n => c26 n))
        replace w := w.2 t27
        exact w
theorem m147 {X : Cst} {d pl pl0 mk qu ln : Nat} {N s w : Int} {S : Int → Int} {h : AH} {Q : Post} (C : Lay h) (P : hR h 52 0 = some pl) (K : PlanAt h pl) (h281 : 281 ≤ hn h) (hpl : pl + 10 < hn h) (hd : 8 ≤ d) (R : CS h pl S) (W : WF N S) (hN : N ≤ 999) (SR : SeaR h pl0 mk qu ln) (ap : apS pl mk qu) (gw : -2147483648 ≤ w ∧ w < 2147483648) (gs : -2147483648 ≤ s ∧ s < 2147483648)
    (k0 : ¬ (setP S s ∧ (0 ≤ w ∧ w < S 1) ∧ opn S (nightP S) w) → Q (some (.int (J (-1)))) h) (k : (setP S s ∧ (0 ≤ w ∧ w < S 1) ∧ opn S (nightP S) w) → ∀ h' mk' qu' ln' v, PoR h h' pl mk qu ln S mk' qu' ln' → IsD (Edg S (nightP S) (S 2).toNat w) (atG S s) (nowF S) v → Q (some (.int (J (if v < 0 then -2 else v)))) h') : Ex X PG d 147 0 [some (.ref 0), some (.int (J w)), some (.int (J s))] [] h Q := by
  obtain ⟨d, rfl⟩ : ∃ e, d = e + 1 := ⟨d - 1, by omega⟩
  have b := W.1
  unfold WFb at b
  have bo := bI_or (nightP S)
  refine r147_0 (S := S) C K P (by omega) ?_
  rw [bI_1]
  refine ⟨R, gw, fun c => k0 (fun z => c z.2.1), fun c => ⟨W.up hN, gs, fun c2 => k0 (fun z => c2 z.1), fun c2 => ⟨R.2.1, by omega, by omega, fun c3 => ?_, fun c3 => k0 (fun z => c3 ⟨z.2.1.2, z.2.2⟩)⟩⟩⟩
  have hc : setP S s ∧ (0 ≤ w ∧ w < S 1) ∧ opn S (nightP S) w := ⟨c2, c, c3.2⟩
  refine m113 C P K h281 hpl (by omega) R W hN SR ap c2 gw (fun z => ⟨c, c3.2⟩) (fun h' mk' qu' ln' st pa la T F po I s0 hF gF nG f7 => ?_) (fun h' mk' qu' ln' st pa la T po I s0 nG f7 => ?_)
  · obtain ⟨p1, p2, p3, p4, p5, p6, p7, p8, p9⟩ := id po
    refine ⟨rfl, p2, ?_⟩
    obtain ⟨ks, ky⟩ := KY_ex I.2.2.1 (F + 1).toNat F hF.1 hF.2 (by omega)
    have D := IsD_found I.2.2.1 hF I.2.2.2.1 gF nG ky
    rw [s0] at D
    have kl := KY_len ky
    have kt := KY_lt_T I.2.2.1 ks F hF.1 hF.2 ky
    have tl := I.T_le
    have l8 := p4.2.2.2.2.2
    have q := k hc h' mk' qu' ln' _ ⟨⟨_, po⟩, I.rest W p4 p5 p6 p7 p8⟩ D
    rw [if_neg (by omega)] at q
    exact m132 p2.1 p2.2.1 p4 p5 (by omega) (by omega) W p8 I hF ky f7 ⟨_, by omega, rfl, SH.rf, q⟩
  · obtain ⟨p1, p2, p3, p4, p5, p6, p7, p8, p9⟩ := id po
    refine ⟨rfl, p2, ?_⟩
    have D := IsD_none I.2.2.1 I.2.2.2.1 nG
    rw [s0] at D
    have q := k hc h' mk' qu' ln' _ ⟨⟨_, po⟩, I.rest W p4 p5 p6 p7 p8⟩ D
    rw [if_pos (by decide)] at q
    exact m132n p2.1 p2.2.1 p4 p5 (by omega) f7 ⟨_, by decide, rfl, SH.rf, q⟩
-- OutwardDoors$Search.labelAt(I)I at 0
set_option maxRecDepth 20000 in
set_option maxHeartbeats 4000000 in
theorem r134_0 {X : Cst} {d : Nat} {x1 : Int} {pl : Nat} {h : AH} {Q : Post} (C_h : Lay h) (K_h_0 : PlanAt h pl) {mk qu ln : Nat} (B_h : SeaAt h pl mk qu ln) (ap : (mk = 248 ∨ 281 ≤ mk) ∧ (qu = 249 ∨ 281 ≤ qu) ∧ ¬ mk = qu ∧ (mk < pl ∨ pl + 10 < mk) ∧ (qu < pl ∨ pl + 10 < qu))
  (w : Ex X PG d 132 0 [some (.ref 247), none, none, none] [] h (fun v2 h3 => ∃ r4 : Int, (-2147483648 ≤ r4 ∧ r4 < 2147483648) ∧ v2 = some (.int (J r4)) ∧ SH h h3 ∧ Ex X PG d 135 0 [some (.ref 247), some (.int (J ((r4 - 1) - x1))), none, none] [] h3 (fun v5 h6 => ∃ r7 : Int, (-2147483648 ≤ r7 ∧ r7 < 2147483648) ∧ v5 = some (.int (J r7)) ∧ SH h3 h6 ∧ (0 ≤ r7 ∧ r7 < ln) ∧ Q (some (.int (J (iand (shr (aI h6 mk r7) (iand 15 31)) 1023)))) h6))) :
    Ex X PG (d + 1) 134 0 [some (.ref 247), some (.int (J x1))] [] h Q := by
  refine wpx_ok (cut := []) 16 d 134 0 _ _ _ _ ?_
  show hs h 247 = (0, 7) ∧ ∃ q1, hR h 247 4 = some q1 ∧ hs h 247 = (0, 7) ∧ Ex X PG d 132 0 [some (.ref 247), none, none, none] [] h (fun v2 h3 => ∃ r4, v2 = some (.int r4) ∧ hs h3 247 = (0, 7) ∧ Ex X PG d 135 0 [some (.ref 247), some (.int ((r4 - (J 1)) - (J x1))), none, none] [] h3 (fun v5 h6 => ∃ r7, v5 = some (.int r7) ∧ (hs h6 q1).1 = 1 ∧ ix r7 (hs h6 q1).2 ∧ Q (some (.int (((hI h6 q1 (Int32.toNatClampNeg r7)) >>> ((J 15) &&& J 31)) &&& (J 1023)))) h6))
  try simp only [aI_wAL, fI_wAL, aL_wA, aL_wF, aI_wA_ne, aI_wF_ne, fI_wA_ne, fI_wF_ne, fI_wF_nk, aL_wAL_ne, J_sameA, J_sameF, aL_same, Nat.add_left_cancel_iff, Nat.add_eq_left, Nat.left_eq_add, not_false_eq_true, Nat.reduceEqDiff, Nat.reduceAdd, J_add, J_sub, J_mul, J_neg, J_and, J_or, J_xor, J_shl, J_shr, J_div, J_i2b, J_i2l, J_l2i, J_lcm, J_max, J_min, J_nab, J_nao, rdA, rdF, rdL, wA_fold, wF_fold, wL_fold, wC_fold]
  refine ⟨(ls247 C_h), _, B_h.2.1, ?_⟩
  try simp only [aI_wAL, fI_wAL, aL_wA, aL_wF, aI_wA_ne, aI_wF_ne, fI_wA_ne, fI_wF_ne, fI_wF_nk, aL_wAL_ne, J_sameA, J_sameF, aL_same, Nat.add_left_cancel_iff, Nat.add_eq_left, Nat.left_eq_add, not_false_eq_true, Nat.reduceEqDiff, Nat.reduceAdd, J_add, J_sub, J_mul, J_neg, J_and, J_or, J_xor, J_shl, J_shr, J_div, J_i2b, J_i2l, J_l2i, J_lcm, J_max, J_min, J_nab, J_nao, rdA, rdF, rdL, wA_fold, wF_fold, wL_fold, wC_fold]
  refine ⟨(ls247 C_h), ?_⟩
  refine Ex.mono w (Nat.le_refl _) ?_
  rintro v2 h3 ⟨r4, gr4, rfl, s10, w⟩
  refine ⟨_, rfl, ?_⟩
  have C_h3 := Lay_SH s10 C_h
  have K_h3_0 := PlanAt_SH s10 K_h_0
  have B_h3 := SeaAt_SH s10 B_h
  try simp only [aI_wAL, fI_wAL, aL_wA, aL_wF, aI_wA_ne, aI_wF_ne, fI_wA_ne, fI_wF_ne, fI_wF_nk, aL_wAL_ne, J_sameA, J_sameF, aL_same, Nat.add_left_cancel_iff, Nat.add_eq_left, Nat.left_eq_add, not_false_eq_true, Nat.reduceEqDiff, Nat.reduceAdd, J_add, J_sub, J_mul, J_neg, J_and, J_or, J_xor, J_shl, J_shr, J_div, J_i2b, J_i2l, J_l2i, J_lcm, J_max, J_min, J_nab, J_nao, rdA, rdF, rdL, wA_fold, wF_fold, wL_fold, wC_fold]
  refine ⟨(ls247 C_h3), ?_⟩
  refine Ex.mono w (Nat.le_refl _) ?_
  rintro v5 h6 ⟨r7, gr7, rfl, s9, w⟩
  refine ⟨_, rfl, ?_⟩
  have C_h6 := Lay_SH s9 C_h3
  have K_h6_0 := PlanAt_SH s9 K_h3_0
  have B_h6 := SeaAt_SH s9 B_h3
  try simp only [aI_wAL, fI_wAL, aL_wA, aL_wF, aI_wA_ne, aI_wF_ne, fI_wA_ne, fI_wF_ne, fI_wF_nk, aL_wAL_ne, J_sameA, J_sameF, aL_same, Nat.add_left_cancel_iff, Nat.add_eq_left, Nat.left_eq_add, not_false_eq_true, Nat.reduceEqDiff, Nat.reduceAdd, J_add, J_sub, J_mul, J_neg, J_and, J_or, J_xor, J_shl, J_shr, J_div, J_i2b, J_i2l, J_l2i, J_lcm, J_max, J_min, J_nab, J_nao, rdA, rdF, rdL, wA_fold, wF_fold, wL_fold, wC_fold]
  obtain ⟨k8, w⟩ := w
  refine ⟨congrArg Prod.fst B_h6.2.2.2.1, ixs B_h6.2.2.2.1 k8 (Nat.le_trans B_h.2.2.2.2.2 (by decide)), ?_⟩
  exact w
theorem m134 {X : Cst} {d pl mk qu ln m : Nat} {S : Int → Int} {t : Prop} {w R T i N F n : Int} {ks : List Int} {st : Int → Int → Int} {pa : Int → Int} {la : Int → Int × Int × Int} {h : AH} {Q : Post}
    (C : Lay h) (K : PlanAt h pl) (B : SeaAt h pl mk qu ln) (ap : apS pl mk qu) (hd : 2 ≤ d) (hm : m ≤ 5) (W : WF N S) (hl : (8 : Int) ^ m ≤ ln) (I : SeaI h pl mk qu ln m S t w st pa la R T i) (hF : 0 ≤ F ∧ F < T) (ky : KY pa la R ks F) (f7 : fI h 247 7 = enc 8 m (st F)) (hn' : 0 ≤ n ∧ n + 1 < ks.length)
    (k : (R ≤ upk pa (ks.length - 1 - (n.toNat + 1)) F ∧ upk pa (ks.length - 1 - (n.toNat + 1)) F < T) → Q (some (.int (J (lbo3 (la (upk pa (ks.length - 1 - (n.toNat + 1)) F)))))) h) : Ex X PG d 134 0 [some (.ref 247), some (.int (J n))] [] h Q := by
  obtain ⟨d, rfl⟩ : ∃ e, d = e + 1 := ⟨d - 1, by omega⟩
  have b := W.1
  unfold WFb at b
  have kl := KY_len ky
  have kt := KY_lt_T I.2.2.1 ks F hF.1 hF.2 ky
  have tl := I.T_le
  have l8 := B.2.2.2.2.2
  refine r134_0 C K B ap ?_
  refine m132 C K B ap (by omega) hm W hl I hF ky f7 ⟨_, by omega, rfl, SH.rf, ?_⟩
  have en : (ks.length : Int) - 1 - 1 - n = ((ks.length - 1 - (n.toNat + 1) : Nat) : Int) := by omega
  rw [en]
  refine m135 C K B ap (by omega) hm W hl I hF ky f7 (by omega) (by omega) (fun hu kk => ?_)
  rw [show (((ks.length - 1 - (n.toNat + 1) : Nat) : Int)).toNat = ks.length - 1 - (n.toNat + 1) by omega] at hu kk ⊢
  have kf := (I.2.1.2.1 _ hu.1 hu.2).1.up b.2.1
  have ef := enc_b (b := 8) (by decide) m _ kf.1
  have dl : 1 < (ks.drop (ks.length - 1 - (n.toNat + 1))).length := by rw [List.length_drop]; omega
  cases hk : ks.drop (ks.length - 1 - (n.toNat + 1)) with
  | nil => rw [hk] at dl; simp at dl
  | cons u ls =>
    cases ls with
    | nil => rw [hk] at dl; simp at dl
    | cons v ls =>
      rw [hk] at kk
      have py := (I.2.2.1.2.2.1 _ kk.1 hu.2).1
      have kp := (I.2.1.2.1 _ py.1 (by omega)).1.up b.2.1
      have ep := enc_b (b := 8) (by decide) m _ kp.1
      have lq := (LG_la W hm I.2.2.1 (i := upk pa (ks.length - 1 - (n.toNat + 1)) F) kk.1 hu.2).2
      refine ⟨_, by omega, rfl, SH.rf, by omega, ?_⟩
      rw [I.2.1.2.2.2.1 _ kk.1 hu.2, mko_l lq (by omega)]
      exact k ⟨kk.1, hu.2⟩
-- OutwardDoors$Passings.outOf(I)I at 0
set_option maxRecDepth 20000 in
set_option maxHeartbeats 4000000 in
theorem r127_0 {X : Cst} {d : Nat} {x0 : Int} {h : AH} {Q : Post} (C_h : Lay h)
  (w : Q (some (.int (J (iand x0 7)))) h) :
    Ex X PG (d + 1) 127 0 [some (.int (J x0))] [] h Q := by
  refine wpx_ok (cut := []) 4 d 127 0 _ _ _ _ ?_
  show Q (some (.int ((J x0) &&& (J 7)))) h
  try simp only [aI_wAL, fI_wAL, aL_wA, aL_wF, aI_wA_ne, aI_wF_ne, fI_wA_ne, fI_wF_ne, fI_wF_nk, aL_wAL_ne, J_sameA, J_sameF, aL_same, Nat.add_left_cancel_iff, Nat.add_eq_left, Nat.left_eq_add, not_false_eq_true, Nat.reduceEqDiff, Nat.reduceAdd, J_add, J_sub, J_mul, J_neg, J_and, J_or, J_xor, J_shl, J_shr, J_div, J_i2b, J_i2l, J_l2i, J_lcm, J_max, J_min, J_nab, J_nao, rdA, rdF, rdL, wA_fold, wF_fold, wL_fold, wC_fold]
  exact w
-- OutwardDoors$Passings.doorOf(I)I at 0
set_option maxRecDepth 20000 in
set_option maxHeartbeats 4000000 in
theorem r136_0 {X : Cst} {d : Nat} {x0 : Int} {h : AH} {Q : Post} (C_h : Lay h)
  (w : Q (some (.int (J (iand (shr x0 (iand 3 31)) 15)))) h) :
    Ex X PG (d + 1) 136 0 [some (.int (J x0))] [] h Q := by
  refine wpx_ok (cut := []) 6 d 136 0 _ _ _ _ ?_
  show Q (some (.int (((J x0) >>> ((J 3) &&& J 31)) &&& (J 15)))) h
  try simp only [aI_wAL, fI_wAL, aL_wA, aL_wF, aI_wA_ne, aI_wF_ne, fI_wA_ne, fI_wF_ne, fI_wF_nk, aL_wAL_ne, J_sameA, J_sameF, aL_same, Nat.add_left_cancel_iff, Nat.add_eq_left, Nat.left_eq_add, not_false_eq_true, Nat.reduceEqDiff, Nat.reduceAdd, J_add, J_sub, J_mul, J_neg, J_and, J_or, J_xor, J_shl, J_shr, J_div, J_i2b, J_i2l, J_l2i, J_lcm, J_max, J_min, J_nab, J_nao, rdA, rdF, rdL, wA_fold, wF_fold, wL_fold, wC_fold]
  exact w
-- OutwardDoors$Passings.inOf(I)I at 0
set_option maxRecDepth 20000 in
set_option maxHeartbeats 4000000 in
theorem r137_0 {X : Cst} {d : Nat} {x0 : Int} {h : AH} {Q : Post} (C_h : Lay h)
  (w : Q (some (.int (J ((iand (shr x0 (iand 7 31)) 7) - 1)))) h) :
    Ex X PG (d + 1) 137 0 [some (.int (J x0))] [] h Q := by
  refine wpx_ok (cut := []) 8 d 137 0 _ _ _ _ ?_
  show Q (some (.int ((((J x0) >>> ((J 7) &&& J 31)) &&& (J 7)) - (J 1)))) h
  try simp only [aI_wAL, fI_wAL, aL_wA, aL_wF, aI_wA_ne, aI_wF_ne, fI_wA_ne, fI_wF_ne, fI_wF_nk, aL_wAL_ne, J_sameA, J_sameF, aL_same, Nat.add_left_cancel_iff, Nat.add_eq_left, Nat.left_eq_add, not_false_eq_true, Nat.reduceEqDiff, Nat.reduceAdd, J_add, J_sub, J_mul, J_neg, J_and, J_or, J_xor, J_shl, J_shr, J_div, J_i2b, J_i2l, J_l2i, J_lcm, J_max, J_min, J_nab, J_nao, rdA, rdF, rdL, wA_fold, wF_fold, wL_fold, wC_fold]
  exact w
-- OutwardDoors.passing(III)I at 0
set_option maxRecDepth 20000 in
set_option maxHeartbeats 4000000 in
theorem r133_0 {X : Cst} {d : Nat} {x1 : Int} {x2 : Int} {x3 : Int} {pl : Nat} {S : Int → Int} {h : AH} {Q : Post} (C_h : Lay h) (K_h_0 : PlanAt h pl) (P_h : hR h 52 0 = some pl) (hd : 2 ≤ d)
  (w : (CS h pl S) ∧ (WF 999 S) ∧ (-2147483648 ≤ x1 ∧ x1 < 2147483648) ∧ ((¬ (setP S x1) → Q (some (.int (J (-3)))) h) ∧ ((setP S x1) → (-2147483648 ≤ x2 ∧ x2 < 2147483648) ∧ ((x2 < 0 → Q (some (.int (J (-3)))) h) ∧ (¬ x2 < 0 → (-2147483648 ≤ x3 ∧ x3 < 2147483648) ∧ ((x3 < 0 → Q (some (.int (J (-3)))) h) ∧ (¬ x3 < 0 → ((x3 ≤ 2 → Ex X PG d 113 0 [some (.ref 0), some (.int (J x1)), some (.int (J (-1))), none, none, none, none] [] h (fun v17 h18 => v17 = none ∧ GRo h18 pl ∧ Ex X PG d 132 0 [some (.ref 247), none, none, none] [] h18 (fun v20 h21 => ∃ r22 : Int, (-2147483648 ≤ r22 ∧ r22 < 2147483648) ∧ v20 = some (.int (J r22)) ∧ SH h18 h21 ∧ ((x2 < r22 → Ex X PG d 134 0 [some (.ref 247), some (.int (J x2))] [] h21 (fun v26 h27 => ∃ r28 : Int, (-2147483648 ≤ r28 ∧ r28 < 2147483648) ∧ v26 = some (.int (J r28)) ∧ SH h21 h27 ∧ ((¬ x3 = 0 → ((¬ x3 = 1 → Ex X PG d 137 0 [some (.int (J r28))] [] h27 (fun v33 h34 => ∃ r35 : Int, (-2147483648 ≤ r35 ∧ r35 < 2147483648) ∧ v33 = some (.int (J r35)) ∧ SH h27 h34 ∧ Q (some (.int (J r35))) h34)) ∧ (x3 = 1 → Ex X PG d 136 0 [some (.int (J r28))] [] h27 (fun v37 h38 => ∃ r39 : Int, (-2147483648 ≤ r39 ∧ r39 < 2147483648) ∧ v37 = some (.int (J r39)) ∧ SH h27 h38 ∧ Q (some (.int (J r39))) h38)))) ∧ (x3 = 0 → Ex X PG d 127 0 [some (.int (J r28))] [] h27 (fun v41 h42 => ∃ r43 : Int, (-2147483648 ≤ r43 ∧ r43 < 2147483648) ∧ v41 = some (.int (J r43)) ∧ SH h27 h42 ∧ Q (some (.int (J r43))) h42))))) ∧ (¬ x2 < r22 → Q (some (.int (J (-2)))) h21))))) ∧ (¬ x3 ≤ 2 → Q (some (.int (J (-3)))) h))))))))) :
    Ex X PG (d + 1) 133 0 [some (.ref 0), some (.int (J x1)), some (.int (J x2)), some (.int (J x3)), none] [] h Q := by
  refine wpx_ok (cut := []) 34 d 133 0 _ _ _ _ ?_
  show hs h 0 = (0, 10) ∧ Ex X PG d 112 0 [some (.ref 0), some (.int (J x1))] [] h (fun v1 h2 => ∃ r3, v1 = some (.int r3) ∧ ((r3 = (J 0) → Q (some (.int (J (-3)))) h2) ∧ (¬ (r3 = (J 0)) → (((J x2) < (J 0) → Q (some (.int (J (-3)))) h2) ∧ (¬ ((J x2) < (J 0)) → (((J x3) < (J 0) → Q (some (.int (J (-3)))) h2) ∧ (¬ ((J x3) < (J 0)) → (((J x3) ≤ (J 2) → hs h2 0 = (0, 10) ∧ Ex X PG d 113 0 [some (.ref 0), some (.int (J x1)), some (.int (J (-1))), none, none, none, none] [] h2 (fun v17 h18 => v17 = none ∧ hs h18 0 = (0, 10) ∧ ∃ q19, hR h18 0 10 = some q19 ∧ hs h18 q19 = (0, 7) ∧ Ex X PG d 132 0 [some (.ref q19), none, none, none] [] h18 (fun v20 h21 => ∃ r22, v20 = some (.int r22) ∧ (((J x2) < r22 → hs h21 0 = (0, 10) ∧ ∃ q25, hR h21 0 10 = some q25 ∧ hs h21 q25 = (0, 7) ∧ Ex X PG d 134 0 [some (.ref q25), some (.int (J x2))] [] h21 (fun v26 h27 => ∃ r28, v26 = some (.int r28) ∧ ((¬ (J x3) = (J 0) → ((¬ (J x3) = (J 1) → Ex X PG d 137 0 [some (.int r28)] [] h27 (fun v33 h34 => ∃ r35, v33 = some (.int r35) ∧ Q (some (.int r35)) h34)) ∧ (¬ (¬ (J x3) = (J 1)) → Ex X PG d 136 0 [some (.int r28)] [] h27 (fun v37 h38 => ∃ r39, v37 = some (.int r39) ∧ Q (some (.int r39)) h38)))) ∧ (¬ (¬ (J x3) = (J 0)) → Ex X PG d 127 0 [some (.int r28)] [] h27 (fun v41 h42 => ∃ r43, v41 = some (.int r43) ∧ Q (some (.int r43)) h42))))) ∧ (¬ ((J x2) < r22) → Q (some (.int (J (-2)))) h21))))) ∧ (¬ ((J x3) ≤ (J 2)) → Q (some (.int (J (-3)))) h2)))))))))
  try simp only [aI_wAL, fI_wAL, aL_wA, aL_wF, aI_wA_ne, aI_wF_ne, fI_wA_ne, fI_wF_ne, fI_wF_nk, aL_wAL_ne, J_sameA, J_sameF, aL_same, Nat.add_left_cancel_iff, Nat.add_eq_left, Nat.left_eq_add, not_false_eq_true, Nat.reduceEqDiff, Nat.reduceAdd, J_add, J_sub, J_mul, J_neg, J_and, J_or, J_xor, J_shl, J_shr, J_div, J_i2b, J_i2l, J_l2i, J_lcm, J_max, J_min, J_nab, J_nao, rdA, rdF, rdL, wA_fold, wF_fold, wL_fold, wC_fold]
  refine ⟨(ls0 C_h), ?_⟩
  obtain ⟨k4, w⟩ := w
  obtain ⟨k5, w⟩ := w
  obtain ⟨k6, w⟩ := w
  refine m112 (h := h) (s := x1) (S := S) (pl := pl) C_h P_h K_h_0 (by omega) k4 k5 k6 ?_
  refine ⟨_, rfl, ?_⟩
  try simp only [aI_wAL, fI_wAL, aL_wA, aL_wF, aI_wA_ne, aI_wF_ne, fI_wA_ne, fI_wF_ne, fI_wF_nk, aL_wAL_ne, J_sameA, J_sameF, aL_same, Nat.add_left_cancel_iff, Nat.add_eq_left, Nat.left_eq_add, not_false_eq_true, Nat.reduceEqDiff, Nat.reduceAdd, J_add, J_sub, J_mul, J_neg, J_and, J_or, J_xor, J_shl, J_shr, J_div, J_i2b, J_i2l, J_l2i, J_lcm, J_max, J_min, J_nab, J_nao, rdA, rdF, rdL, wA_fold, wF_fold, wL_fold, wC_fold]
  refine ⟨fun c7 => ?_, fun c7 => ?_⟩
  · have t8 : ¬ (setP S x1) := ((bI0 _).mp c7)
    replace w := w.1 t8
    exact w
  · have t8 : (setP S x1) := (Classical.byContradiction fun n => c7 ((bI0 _).mpr n))
    replace w := w.2 t8
    obtain ⟨k11, w⟩ := w
    refine ⟨fun c9 => ?_, fun c9 => ?_⟩
    · have t10 : x2 < 0 := ((Jlt k11 (by decide)).mp c9)
      replace w := w.1 t10
      exact w
    · have t10 : ¬ x2 < 0 := (fun e => c9 ((Jlt k11 (by decide)).mpr e))
      replace w := w.2 t10
      obtain ⟨k14, w⟩ := w
      refine ⟨fun c12 => ?_, fun c12 => ?_⟩
      · have t13 : x3 < 0 := ((Jlt k14 (by decide)).mp c12)
        replace w := w.1 t13
        exact w
      · have t13 : ¬ x3 < 0 := (fun e => c12 ((Jlt k14 (by decide)).mpr e))
        replace w := w.2 t13
        refine ⟨fun c15 => ?_, fun c15 => ?_⟩
        · have t16 : x3 ≤ 2 := ((Jle k14 (by decide)).mp c15)
          replace w := w.1 t16
          refine ⟨(ls0 C_h), ?_⟩
          refine Ex.mono w (Nat.le_refl _) ?_
          rintro v17 h18 ⟨rfl, ⟨C_h18, K_h18_0, P_h18⟩, w⟩
          refine ⟨rfl, ?_⟩
          try simp only [aI_wAL, fI_wAL, aL_wA, aL_wF, aI_wA_ne, aI_wF_ne, fI_wA_ne, fI_wF_ne, fI_wF_nk, aL_wAL_ne, J_sameA, J_sameF, aL_same, Nat.add_left_cancel_iff, Nat.add_eq_left, Nat.left_eq_add, not_false_eq_true, Nat.reduceEqDiff, Nat.reduceAdd, J_add, J_sub, J_mul, J_neg, J_and, J_or, J_xor, J_shl, J_shr, J_div, J_i2b, J_i2l, J_l2i, J_lcm, J_max, J_min, J_nab, J_nao, rdA, rdF, rdL, wA_fold, wF_fold, wL_fold, wC_fold]
          refine ⟨(ls0 C_h18), _, (lr0_10 C_h18), ?_⟩
          refine ⟨(ls247 C_h18), ?_⟩
          refine Ex.mono w (Nat.le_refl _) ?_
          rintro v20 h21 ⟨r22, gr22, rfl, s46, w⟩
          refine ⟨_, rfl, ?_⟩
          have C_h21 := Lay_SH s46 C_h18
          have K_h21_0 := PlanAt_SH s46 K_h18_0
          have P_h21 := (congrFun (congrFun s46.2 52) 0).trans P_h18
          try simp only [aI_wAL, fI_wAL, aL_wA, aL_wF, aI_wA_ne, aI_wF_ne, fI_wA_ne, fI_wF_ne, fI_wF_nk, aL_wAL_ne, J_sameA, J_sameF, aL_same, Nat.add_left_cancel_iff, Nat.add_eq_left, Nat.left_eq_add, not_false_eq_true, Nat.reduceEqDiff, Nat.reduceAdd, J_add, J_sub, J_mul, J_neg, J_and, J_or, J_xor, J_shl, J_shr, J_div, J_i2b, J_i2l, J_l2i, J_lcm, J_max, J_min, J_nab, J_nao, rdA, rdF, rdL, wA_fold, wF_fold, wL_fold, wC_fold]
          refine ⟨fun c23 => ?_, fun c23 => ?_⟩
          · have t24 : x2 < r22 := ((Jlt k11 gr22).mp c23)
            replace w := w.1 t24
            refine ⟨(ls0 C_h21), _, (lr0_10 C_h21), ?_⟩
            refine ⟨(ls247 C_h21), ?_⟩
            refine Ex.mono w (Nat.le_refl _) ?_
            rintro v26 h27 ⟨r28, gr28, rfl, s45, w⟩
            refine ⟨_, rfl, ?_⟩
            have C_h27 := Lay_SH s45 C_h21
            have K_h27_0 := PlanAt_SH s45 K_h21_0
            have P_h27 := (congrFun (congrFun s45.2 52) 0).trans P_h21
            try simp only [aI_wAL, fI_wAL, aL_wA, aL_wF, aI_wA_ne, aI_wF_ne, fI_wA_ne, fI_wF_ne, fI_wF_nk, aL_wAL_ne, J_sameA, J_sameF, aL_same, Nat.add_left_cancel_iff, Nat.add_eq_left, Nat.left_eq_add, not_false_eq_true, Nat.reduceEqDiff, Nat.reduceAdd, J_add, J_sub, J_mul, J_neg, J_and, J_or, J_xor, J_shl, J_shr, J_div, J_i2b, J_i2l, J_l2i, J_lcm, J_max, J_min, J_nab, J_nao, rdA, rdF, rdL, wA_fold, wF_fold, wL_fold, wC_fold]
            refine ⟨fun c29 => ?_, fun c29 => ?_⟩
            · have t30 : ¬ x3 = 0 := (fun e => c29 ((Jeq k14 (by decide)).mpr e))
              replace w := w.1 t30
              refine ⟨fun c31 => ?_, fun c31 => ?_⟩
              · have t32 : ¬ x3 = 1 := (fun e => c31 ((Jeq k14 (by decide)).mpr e))
                replace w := w.1 t32
                refine Ex.mono w (Nat.le_refl _) ?_
                rintro v33 h34 ⟨r35, gr35, rfl, s36, w⟩
                refine ⟨_, rfl, ?_⟩
                have C_h34 := Lay_SH s36 C_h27
                have K_h34_0 := PlanAt_SH s36 K_h27_0
                have P_h34 := (congrFun (congrFun s36.2 52) 0).trans P_h27
                try simp only [aI_wAL, fI_wAL, aL_wA, aL_wF, aI_wA_ne, aI_wF_ne, fI_wA_ne, fI_wF_ne, fI_wF_nk, aL_wAL_ne, J_sameA, J_sameF, aL_same, Nat.add_left_cancel_iff, Nat.add_eq_left, Nat.left_eq_add, not_false_eq_true, Nat.reduceEqDiff, Nat.reduceAdd, J_add, J_sub, J_mul, J_neg, J_and, J_or, J_xor, J_shl, J_shr, J_div, J_i2b, J_i2l, J_l2i, J_lcm, J_max, J_min, J_nab, J_nao, rdA, rdF, rdL, wA_fold, wF_fold, wL_fold, wC_fold]
                exact w
              · have t32 : x3 = 1 := ((Jeq k14 (by decide)).mp (Classical.byContradiction c31))
                replace w := w.2 t32
                refine Ex.mono w (Nat.le_refl _) ?_
                rintro v37 h38 ⟨r39, gr39, rfl, s40, w⟩
                refine ⟨_, rfl, ?_⟩
                have C_h38 := Lay_SH s40 C_h27
                have K_h38_0 := PlanAt_SH s40 K_h27_0
                have P_h38 := (congrFun (congrFun s40.2 52) 0).trans P_h27
                try simp only [aI_wAL, fI_wAL, aL_wA, aL_wF, aI_wA_ne, aI_wF_ne, fI_wA_ne, fI_wF_ne, fI_wF_nk, aL_wAL_ne, J_sameA, J_sameF, aL_same, Nat.add_left_cancel_iff, Nat.add_eq_left, Nat.left_eq_add, not_false_eq_true, Nat.reduceEqDiff, Nat.reduceAdd, J_add, J_sub, J_mul, J_neg, J_and, J_or, J_xor, J_shl, J_shr, J_div, J_i2b, J_i2l, J_l2i, J_lcm, J_max, J_min, J_nab, J_nao, rdA, rdF, rdL, wA_fold, wF_fold, wL_fold, wC_fold]
                exact w
            · have t30 : x3 = 0 := ((Jeq k14 (by decide)).mp (Classical.byContradiction c29))
              replace w := w.2 t30
              refine Ex.mono w (Nat.le_refl _) ?_
              rintro v41 h42 ⟨r43, gr43, rfl, s44, w⟩
              refine ⟨_, rfl, ?_⟩
              have C_h42 := Lay_SH s44 C_h27
              have K_h42_0 := PlanAt_SH s44 K_h27_0
              have P_h42 := (congrFun (congrFun s44.2 52) 0).trans P_h27
              try simp only [aI_wAL, fI_wAL, aL_wA, aL_wF, aI_wA_ne, aI_wF_ne, fI_wA_ne, fI_wF_ne, fI_wF_nk, aL_wAL_ne, J_sameA, J_sameF, aL_same, Nat.add_left_cancel_iff, Nat.add_eq_left, Nat.left_eq_add, not_false_eq_true, Nat.reduceEqDiff, Nat.reduceAdd, J_add, J_sub, J_mul, J_neg, J_and, J_or, J_xor, J_shl, J_shr, J_div, J_i2b, J_i2l, J_l2i, J_lcm, J_max, J_min, J_nab, J_nao, rdA, rdF, rdL, wA_fold, wF_fold, wL_fold, wC_fold]
              exact w
          · have t24 : ¬ x2 < r22 := (fun e => c23 ((Jlt k11 gr22).mpr e))
            replace w := w.2 t24
            exact w
        · have t16 : ¬ x3 ≤ 2 := (fun e => c15 ((Jle k14 (by decide)).mpr e))
          replace w := w.2 t16
          exact w
theorem GrW.le {S : Int → Int} {t : Prop} {m : Nat} {D : (Int → Int) → Int → Prop} {v : Int} {f : Int → Int} {n n' : Nat} {s : Nat → Int → Int} {l : Nat → Int × Int × Int} (x : GrW S t m D v f n s l) (h : n' ≤ n) : GrW S t m D v f n' s l := ⟨x.1, fun i hi => x.2 i (by omega)⟩
theorem m133 {X : Cst} {d pl pl0 mk qu ln : Nat} {N s n w : Int} {S : Int → Int} {h : AH} {Q : Post} (C : Lay h) (P : hR h 52 0 = some pl) (K : PlanAt h pl) (h281 : 281 ≤ hn h) (hpl : pl + 10 < hn h) (hd : 8 ≤ d) (R : CS h pl S) (W : WF N S) (hN : N ≤ 999) (SR : SeaR h pl0 mk qu ln) (ap : apS pl mk qu) (g1 : -2147483648 ≤ s ∧ s < 2147483648) (g2 : -2147483648 ≤ n ∧ n < 2147483648) (g3 : -2147483648 ≤ w ∧ w < 2147483648)
    (k0 : ¬ (setP S s ∧ 0 ≤ n ∧ (0 ≤ w ∧ w ≤ 2)) → Q (some (.int (J (-3)))) h)
    (k1 : (setP S s ∧ 0 ≤ n ∧ (0 ≤ w ∧ w ≤ 2)) → ∀ h' mk' qu' ln' v, PoR h h' pl mk qu ln S mk' qu' ln' → IsD (Edg S (nightP S) (S 2).toNat (-1)) (atG S s) (nowF S) v → v ≤ n → Q (some (.int (J (-2)))) h')
    (k : (setP S s ∧ 0 ≤ n ∧ (0 ≤ w ∧ w ≤ 2)) → ∀ h' mk' qu' ln' v r l, PoR h h' pl mk qu ln S mk' qu' ln' → IsD (Edg S (nightP S) (S 2).toNat (-1)) (atG S s) (nowF S) v → n < v → GrW S (nightP S) (S 2).toNat (IsD (Edg S (nightP S) (S 2).toNat (-1)) (atG S s)) v (nowF S) (n.toNat + 1) r l → Q (some (.int (J (cmp3 w (l n.toNat))))) h') : Ex X PG d 133 0 [some (.ref 0), some (.int (J s)), some (.int (J n)), some (.int (J w)), none] [] h Q := by
  obtain ⟨d, rfl⟩ : ∃ e, d = e + 1 := ⟨d - 1, by omega⟩
  have b := W.1
  unfold WFb at b
  refine r133_0 (S := S) C K P (by omega) ⟨R, W.up hN, g1, fun c => k0 (fun z => c z.1), fun c => ⟨g2, fun c2 => k0 (fun z => absurd z.2.1 (by omega)), fun c2 => ⟨g3, fun c3 => k0 (fun z => absurd z.2.2.1 (by omega)), fun c3 => ⟨fun c4 => ?_, fun c4 => k0 (fun z => c4 z.2.2.2)⟩⟩⟩⟩
  have hc : setP S s ∧ 0 ≤ n ∧ (0 ≤ w ∧ w ≤ 2) := ⟨c, by omega, by omega⟩
  refine m113 C P K h281 hpl (by omega) R W hN SR ap c (by decide) (fun z => absurd rfl z) (fun h' mk' qu' ln' st pa la T F po I s0 hF gF nG f7 => ?_) (fun h' mk' qu' ln' st pa la T po I s0 nG f7 => ?_)
  · obtain ⟨p1, p2, p3, p4, p5, p6, p7, p8, p9⟩ := id po
    refine ⟨rfl, p2, ?_⟩
    obtain ⟨ks, ky⟩ := KY_ex I.2.2.1 (F + 1).toNat F hF.1 hF.2 (by omega)
    have D := IsD_found I.2.2.1 hF I.2.2.2.1 gF nG ky
    rw [s0] at D
    have kl := KY_len ky
    have kt := KY_lt_T I.2.2.1 ks F hF.1 hF.2 ky
    have tl := I.T_le
    have l8 := p4.2.2.2.2.2
    have po' : PoR h h' pl mk qu ln S mk' qu' ln' := ⟨⟨_, po⟩, I.rest W p4 p5 p6 p7 p8⟩
    refine m132 p2.1 p2.2.1 p4 p5 (by omega) (by omega) W p8 I hF ky f7 ⟨_, by omega, rfl, SH.rf, fun c5 => ?_, fun c5 => k1 hc h' mk' qu' ln' _ po' D (by omega)⟩
    refine m134 (n := n) p2.1 p2.2.1 p4 p5 (by omega) (by omega) W p8 I hF ky f7 (by omega) (fun hu => ?_)
    have lq := LG_la W (by omega) I.2.2.1 (i := upk pa (ks.length - 1 - (n.toNat + 1)) F) hu.1 hu.2
    have lo := lbo_o lq.1.1 lq.1.2.1 lq.1.2.2
    have gr := row_GrW I.2.2.1 hF I.2.2.2.1 gF nG (v := ks.length - 1) ky (by omega)
    rw [s0, show (((ks.length - 1 : Nat)) : Int) = (ks.length : Int) - 1 by omega] at gr
    have q := k hc h' mk' qu' ln' _ _ _ po' D c5 (gr.le (by omega))
    unfold cmp3 at q
    refine ⟨_, by omega, rfl, SH.rf, ?_⟩
    obtain ⟨d, rfl⟩ : ∃ e, d = e + 1 := ⟨d - 1, by omega⟩
    refine ⟨fun c6 => ⟨fun c7 => ?_, fun c7 => ?_⟩, fun c6 => ?_⟩
    · rw [if_neg c6, if_neg c7] at q
      refine r137_0 p2.1 ?_
      rw [show lbo3 (la (upk pa (ks.length - 1 - (n.toNat + 1)) F)) = lbo (la (upk pa (ks.length - 1 - (n.toNat + 1)) F)).1 (la (upk pa (ks.length - 1 - (n.toNat + 1)) F)).2.1 (la (upk pa (ks.length - 1 - (n.toNat + 1)) F)).2.2 from rfl, lo.2.2, show (la (upk pa (ks.length - 1 - (n.toNat + 1)) F)).2.2 + 1 - 1 = (la (upk pa (ks.length - 1 - (n.toNat + 1)) F)).2.2 by omega]
      exact ⟨_, by omega, rfl, SH.rf, q⟩
    · rw [if_neg c6, if_pos c7] at q
      refine r136_0 p2.1 ?_
      rw [show lbo3 (la (upk pa (ks.length - 1 - (n.toNat + 1)) F)) = lbo (la (upk pa (ks.length - 1 - (n.toNat + 1)) F)).1 (la (upk pa (ks.length - 1 - (n.toNat + 1)) F)).2.1 (la (upk pa (ks.length - 1 - (n.toNat + 1)) F)).2.2 from rfl, lo.2.1]
      exact ⟨_, by omega, rfl, SH.rf, q⟩
    · rw [if_pos c6] at q
      refine r127_0 p2.1 ?_
      rw [show lbo3 (la (upk pa (ks.length - 1 - (n.toNat + 1)) F)) = lbo (la (upk pa (ks.length - 1 - (n.toNat + 1)) F)).1 (la (upk pa (ks.length - 1 - (n.toNat + 1)) F)).2.1 (la (upk pa (ks.length - 1 - (n.toNat + 1)) F)).2.2 from rfl, lo.1]
      exact ⟨_, by omega, rfl, SH.rf, q⟩
  · obtain ⟨p1, p2, p3, p4, p5, p6, p7, p8, p9⟩ := id po
    refine ⟨rfl, p2, ?_⟩
    have D := IsD_none I.2.2.1 I.2.2.2.1 nG
    rw [s0] at D
    exact m132n p2.1 p2.2.1 p4 p5 (by omega) f7 ⟨_, by decide, rfl, SH.rf, fun z => absurd z (by omega), fun _ => k1 hc h' mk' qu' ln' _ ⟨⟨_, po⟩, I.rest W p4 p5 p6 p7 p8⟩ D (by omega)⟩
