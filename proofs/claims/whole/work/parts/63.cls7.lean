/-! THE CLASS: aim, send. -/
/-- what stays well formed where the castle stays -/
theorem Stat.wf {N M : Int} {S R : Int → Int} (s : Stat S R) (W : WF N S) (m : 0 ≤ R 3 ∧ R 3 ≤ M) (n : ∀ k, 84 ≤ k → k < 115 → R k = S k)
    (pp : ∀ p, 0 ≤ p → p < S 2 → 0 ≤ pS R p 0 ∧ pS R p 0 < S 0 ∧ 0 ≤ pS R p 1 ∧ pS R p 1 < S 0 ∧ 0 ≤ pS R p 3 ∧ pS R p 3 ≤ M ∧ 0 ≤ pS R p 4 ∧ pS R p 4 ≤ M ∧ -1 ≤ pS R p 5 ∧ pS R p 5 < 4) : WF M R := by
  have b := W.1
  unfold WFb at b
  obtain ⟨-, wp, wf, wdd, wu, wn', wt⟩ := W
  obtain ⟨s1, s4, s5, s6, s7, s8⟩ := s
  have e0 := s1 0 (by decide) (by decide)
  have e1 := s1 1 (by decide) (by decide)
  have e2 := s1 2 (by decide) (by decide)
  have ef : ∀ r, 0 ≤ r → r < 8 → R (34 + r) = S (34 + r) := fun r h1 h2 => s6 _ (by omega) (by omega)
  have en : ∀ d, 0 ≤ d → d < S 1 → nr R d = nr S d ∧ fr R d = fr S d ∧ wn R d = wn S d := fun d h1 h2 => ⟨s6 _ (by omega) (by omega), s6 _ (by omega) (by omega), s6 _ (by omega) (by omega)⟩
  refine ⟨?_, ?_, ?_, ?_, ?_, ?_, ?_⟩
  · unfold WFb
    rw [e0, e1, e2, s4, s5]
    omega
  · intro p h1 h2
    rw [e2] at h2
    rw [e0, s8 p h1 h2]
    have a := pp p h1 h2
    have c := wp p h1 h2
    omega
  · intro r h1 h2; rw [ef r h1 h2]; exact wf r h1 h2
  · intro d h1 h2
    rw [e1] at h2
    have q := en d h1 h2
    have dd := wdd d h1 h2
    rw [q.1, q.2.1, q.2.2, e0, ef _ dd.1 (by omega), ef _ dd.2.2.1 (by omega)]
    exact dd
  · intro d e h1 h2 h3 h4
    rw [e1] at h2 h4
    rw [(en d h1 h2).1, (en e h3 h4).1, (en d h1 h2).2.1, (en e h3 h4).2.1]
    exact wu d e h1 h2 h3 h4
  · have q := n 114 (by omega) (by omega)
    refine ⟨by rw [q]; exact wn'.1, by rw [q]; exact wn'.2.1, fun j h1 h2 => ?_⟩
    rw [q] at h2
    have l := wn'.2.1
    rw [e0, e2, n (84 + 3 * j) (by omega) (by omega), n (84 + 3 * j + 1) (by omega) (by omega), n (84 + 3 * j + 2) (by omega) (by omega)]
    exact wn'.2.2 j h1 h2
  · intro p h1 h2
    rw [e2] at h2
    rw [e0, s7 (115 + 2 * p) (by omega) (by omega), s7 (115 + 2 * p + 1) (by omega) (by omega)]
    exact wt p h1 h2
/-- one thing of one person changed -/
theorem WorldRep.up {h : AH} {a : Nat} {S : Int → Int} {p w v : Int} {i : Nat} (P : WorldRep h a S) (b : S 2 ≤ 4) (hp : 0 ≤ p ∧ p < S 2) (hw : (w = 0 ∧ i = 1) ∨ (w = 1 ∧ i = 2) ∨ (w = 3 ∧ i = 3) ∨ (w = 4 ∧ i = 4) ∨ (w = 5 ∧ i = 5)) (hv : -2147483648 ≤ v ∧ v < 2147483648) : WorldRep (wA h (a + i) p v) a (uu_ S (10 + 6 * p + w) v) := by
  have w6 : 0 ≤ w ∧ w < 6 := by omega
  have i6 : 1 ≤ i := by omega
  have e2 : uu_ S (10 + 6 * p + w) v 2 = S 2 := uu_ne (by omega) (by omega) (by omega)
  have key : ∀ (q : Int) (i' : Nat) (w' : Int), 0 ≤ q → q < 4 → (i' = i ↔ w' = w) → (0 ≤ w' ∧ w' < 6) → aI h (a + i') q = pS S q w' → aI (wA h (a + i) p v) (a + i') q = pS (uu_ S (10 + 6 * p + w) v) q w' := by
    intro q i' w' q0 q1 iw hw' e
    by_cases c : i' = i
    · have cw := iw.mp c
      subst c; subst cw
      rw [aI_wA hv]
      unfold pS
      by_cases cq : q = p
      · subst cq; rw [uu_eq, uu_eq]
      · rw [uu_ne (by omega) (by omega) cq, uu_ne (by omega) (by omega) (by omega)]; exact e
    · have cw : ¬ w' = w := fun z => c (iw.mpr z)
      rw [aI_wA_ne (by omega)]
      unfold pS
      rw [uu_ne (by omega) (by omega) (by omega)]; exact e
  have k0 : ∀ (q : Int) (i' : Nat), S 2 ≤ q → q < 4 → aI h (a + i') q = 0 → aI (wA h (a + i) p v) (a + i') q = 0 := by
    intro q i' q0 q1 e
    by_cases c : i' = i
    · subst c; rw [aI_wA hv, uu_ne (by omega) (by omega) (by omega)]; exact e
    · rw [aI_wA_ne (by omega)]; exact e
  obtain ⟨x, y, z⟩ := P
  refine ⟨fun q q0 q1 => ?_, fun q q0 q1 => ?_, ?_⟩
  · rw [e2] at q1
    obtain ⟨x1, x2, x3, x4, x5⟩ := x q q0 q1
    exact ⟨key q 1 0 q0 (by omega) (by omega) (by omega) x1, key q 2 1 q0 (by omega) (by omega) (by omega) x2, key q 3 3 q0 (by omega) (by omega) (by omega) x3, key q 4 4 q0 (by omega) (by omega) (by omega) x4, key q 5 5 q0 (by omega) (by omega) (by omega) x5⟩
  · rw [e2] at q0
    exact ⟨k0 q 3 q0 q1 (y q q0 q1).1, k0 q 4 q0 q1 (y q q0 q1).2⟩
  · rw [fI_wA_ne (by omega), uu_ne (by omega) (by omega) (by omega)]; exact z
theorem CP.fr {T : Nat → Nat → Prop} {h h' : AH} {u : Int} {V : Int → Int → Int} (x : CP h u V) (F : Fr T h h') (t : ∀ c k, T c k → (c < 121 ∨ 240 < c) ∧ ¬ (c = 0 ∧ (k = 14 ∨ k = 15))) : CP h' u V := by
  obtain ⟨a, b, c, e⟩ := x
  have f14 : fI h' 0 14 = fI h 0 14 := F.f 0 14 (fun z => (t _ _ z).2 ⟨rfl, Or.inl rfl⟩)
  have f15 : fI h' 0 15 = fI h 0 15 := F.f 0 15 (fun z => (t _ _ z).2 ⟨rfl, Or.inr rfl⟩)
  refine ⟨by rw [f14]; exact a, b, by rw [f15]; exact c, fun j j0 j1 => ?_⟩
  rw [f15]
  exact (e j j0 j1).fr F (fun c k z => by have := (t c k z).1; omega)
theorem WFp.aim {N : Int} {S : Int → Int} (W : WF N S) {p r : Int} (hp : 0 ≤ p ∧ p < S 2) (hr : 0 ≤ r ∧ r < S 0) : WF N (uu_ S (10 + 6 * p + 1) r) ∧ Stat S (uu_ S (10 + 6 * p + 1) r) := by
  have b := W.1
  unfold WFb at b
  have k : ∀ k, 0 ≤ k → k < 2147483648 → ¬ k = 10 + 6 * p + 1 → uu_ S (10 + 6 * p + 1) r k = S k := fun k k0 k1 k2 => uu_ne (by omega) (by omega) (by omega)
  have s : Stat S (uu_ S (10 + 6 * p + 1) r) := ⟨fun j _ _ => k j (by omega) (by omega) (by omega), k _ (by omega) (by omega) (by omega), k _ (by omega) (by omega) (by omega), fun j _ _ => k j (by omega) (by omega) (by omega), fun j _ _ => k j (by omega) (by omega) (by omega), fun q _ _ => k _ (by omega) (by omega) (by omega)⟩
  refine ⟨s.wf W (by rw [k 3 (by omega) (by omega) (by omega)]; omega) (fun j _ _ => k j (by omega) (by omega) (by omega)) (fun q q0 q1 => ?_), s⟩
  have a := W.2.1 q q0 q1
  have o : ∀ w, 0 ≤ w → w < 6 → ¬ w = 1 → pS (uu_ S (10 + 6 * p + 1) r) q w = pS S q w := fun w w0 w1 w2 => k _ (by omega) (by omega) (by omega)
  rw [o 0 (by omega) (by omega) (by omega), o 3 (by omega) (by omega) (by omega), o 4 (by omega) (by omega) (by omega), o 5 (by omega) (by omega) (by omega)]
  have r1 : 0 ≤ pS (uu_ S (10 + 6 * p + 1) r) q 1 ∧ pS (uu_ S (10 + 6 * p + 1) r) q 1 < S 0 := by
    unfold pS
    by_cases e : q = p
    · subst e; rw [uu_eq]; omega
    · rw [uu_ne (by omega) (by omega) (by omega)]; unfold pS at a; omega
  omega
def TAc (c k : Nat) : Prop := (121 ≤ c ∧ c ≤ 240) ∨ (c = 0 ∧ (k = 14 ∨ k = 15)) ∨ (65 ≤ c ∧ c ≤ 69)
-- OutwardDoors.aim(II)I at 0
set_option maxRecDepth 20000 in
set_option maxHeartbeats 4000000 in
theorem r106_0 {X : Cst} {d : Nat} {x1 : Int} {x2 : Int} {pl : Nat} {S : Int → Int} {V : Int → Int → Int} {u : Int} {h : AH} {Q : Post} (C_h : Lay h) (K_h_0 : PlanAt h pl) (P_h : hR h 52 0 = some pl) (hd : 2 ≤ d)
  (w : (CS h pl S) ∧ (-2147483648 ≤ x1 ∧ x1 < 2147483648) ∧ ((¬ (0 ≤ x1 ∧ x1 < S 2) → Q (some (.int (J (-1)))) h) ∧ ((0 ≤ x1 ∧ x1 < S 2) → (-2147483648 ≤ x2 ∧ x2 < 2147483648) ∧ ((¬ (0 ≤ x2 ∧ x2 < S 0) → Q (some (.int (J (-1)))) h) ∧ ((0 ≤ x2 ∧ x2 < S 0) → (0 ≤ x1 ∧ x1 < 4) ∧ ((¬ aI h 66 x1 = x2 → (WorldRep h 64 S) ∧ (WF 999 S) ∧ (CP h u V) ∧ (∀ h21, SH h h21 → (Fr (fun c j => (121 ≤ c ∧ c ≤ 240) ∨ (c = 0 ∧ (j = 14 ∨ j = 15))) h h21 ∧ CP h21 (pshU u) (pshV u V S)) → Q (some (.int (J (aI h21 66 x1)))) (wA h21 66 x1 x2))) ∧ (aI h 66 x1 = x2 → Q (some (.int (J (-1)))) h))))))) :
    Ex X PG (d + 1) 106 0 [some (.ref 0), some (.int (J x1)), some (.int (J x2)), none] [] h Q := by
  refine wpx_ok (cut := []) 34 d 106 0 _ _ _ _ ?_
  show hs h 0 = (0, 10) ∧ Ex X PG d 75 0 [some (.ref 0), some (.int (J x1))] [] h (fun v1 h2 => ∃ r3, v1 = some (.int r3) ∧ ((r3 = (J 0) → Q (some (.int (J (-1)))) h2) ∧ (¬ (r3 = (J 0)) → hs h2 0 = (0, 10) ∧ Ex X PG d 80 0 [some (.ref 0), some (.int (J x2))] [] h2 (fun v8 h9 => ∃ r10, v8 = some (.int r10) ∧ ((r10 = (J 0) → Q (some (.int (J (-1)))) h9) ∧ (¬ (r10 = (J 0)) → hs h9 0 = (0, 10) ∧ ∃ q14, hR h9 0 5 = some q14 ∧ hs h9 q14 = (0, 6) ∧ ∃ q15, hR h9 q14 1 = some q15 ∧ hs h9 q15 = (0, 9) ∧ ∃ q16, hR h9 q15 1 = some q16 ∧ (hs h9 q16).1 = 1 ∧ ix (J x1) (hs h9 q16).2 ∧ ((¬ (hI h9 q16 (Int32.toNatClampNeg (J x1))) = (J x2) → hs h9 0 = (0, 10) ∧ Ex X PG d 87 0 [some (.ref 0)] [] h9 (fun v20 h21 => v20 = none ∧ hs h21 0 = (0, 10) ∧ ∃ q25, hR h21 0 5 = some q25 ∧ hs h21 q25 = (0, 6) ∧ ∃ q26, hR h21 q25 1 = some q26 ∧ hs h21 q26 = (0, 9) ∧ ∃ q27, hR h21 q26 1 = some q27 ∧ (hs h21 q27).1 = 1 ∧ ix (J x1) (hs h21 q27).2 ∧ hs h21 0 = (0, 10) ∧ ∃ q28, hR h21 0 5 = some q28 ∧ hs h21 q28 = (0, 6) ∧ ∃ q29, hR h21 q28 1 = some q29 ∧ hs h21 q29 = (0, 9) ∧ ∃ q30, hR h21 q29 1 = some q30 ∧ (hs h21 q30).1 = 1 ∧ ix (J x1) (hs h21 q30).2 ∧ Q (some (.int (hI h21 q27 (Int32.toNatClampNeg (J x1))))) (wI h21 q30 (Int32.toNatClampNeg (J x1)) (J x2)))) ∧ (¬ (¬ (hI h9 q16 (Int32.toNatClampNeg (J x1))) = (J x2)) → Q (some (.int (J (-1)))) h9))))))))
  try simp only [aI_wAL, fI_wAL, aL_wA, aL_wF, aI_wA_ne, aI_wF_ne, fI_wA_ne, fI_wF_ne, fI_wF_nk, aL_wAL_ne, J_sameA, J_sameF, aL_same, Nat.add_left_cancel_iff, Nat.add_eq_left, Nat.left_eq_add, not_false_eq_true, Nat.reduceEqDiff, Nat.reduceAdd, J_add, J_sub, J_mul, J_neg, J_and, J_or, J_xor, J_shl, J_shr, J_div, J_i2b, J_i2l, J_l2i, J_lcm, J_max, J_min, J_nab, J_nao, rdA, rdF, rdL, wA_fold, wF_fold, wL_fold, wC_fold]
  refine ⟨(ls0 C_h), ?_⟩
  obtain ⟨k4, w⟩ := w
  obtain ⟨k5, w⟩ := w
  refine m75 (h := h) (x := x1) (S := S) (pl := pl) C_h P_h K_h_0 (by omega) k4 k5 ?_
  refine ⟨_, rfl, ?_⟩
  try simp only [aI_wAL, fI_wAL, aL_wA, aL_wF, aI_wA_ne, aI_wF_ne, fI_wA_ne, fI_wF_ne, fI_wF_nk, aL_wAL_ne, J_sameA, J_sameF, aL_same, Nat.add_left_cancel_iff, Nat.add_eq_left, Nat.left_eq_add, not_false_eq_true, Nat.reduceEqDiff, Nat.reduceAdd, J_add, J_sub, J_mul, J_neg, J_and, J_or, J_xor, J_shl, J_shr, J_div, J_i2b, J_i2l, J_l2i, J_lcm, J_max, J_min, J_nab, J_nao, rdA, rdF, rdL, wA_fold, wF_fold, wL_fold, wC_fold]
  refine ⟨fun c6 => ?_, fun c6 => ?_⟩
  · have t7 : ¬ (0 ≤ x1 ∧ x1 < S 2) := ((bI0 _).mp c6)
    replace w := w.1 t7
    exact w
  · have t7 : (0 ≤ x1 ∧ x1 < S 2) := (Classical.byContradiction fun n => c6 ((bI0 _).mpr n))
    replace w := w.2 t7
    refine ⟨(ls0 C_h), ?_⟩
    obtain ⟨k11, w⟩ := w
    refine m80 (h := h) (x := x2) (S := S) (pl := pl) C_h P_h K_h_0 (by omega) k4 k11 ?_
    refine ⟨_, rfl, ?_⟩
    try simp only [aI_wAL, fI_wAL, aL_wA, aL_wF, aI_wA_ne, aI_wF_ne, fI_wA_ne, fI_wF_ne, fI_wF_nk, aL_wAL_ne, J_sameA, J_sameF, aL_same, Nat.add_left_cancel_iff, Nat.add_eq_left, Nat.left_eq_add, not_false_eq_true, Nat.reduceEqDiff, Nat.reduceAdd, J_add, J_sub, J_mul, J_neg, J_and, J_or, J_xor, J_shl, J_shr, J_div, J_i2b, J_i2l, J_l2i, J_lcm, J_max, J_min, J_nab, J_nao, rdA, rdF, rdL, wA_fold, wF_fold, wL_fold, wC_fold]
    refine ⟨fun c12 => ?_, fun c12 => ?_⟩
    · have t13 : ¬ (0 ≤ x2 ∧ x2 < S 0) := ((bI0 _).mp c12)
      replace w := w.1 t13
      exact w
    · have t13 : (0 ≤ x2 ∧ x2 < S 0) := (Classical.byContradiction fun n => c12 ((bI0 _).mpr n))
      replace w := w.2 t13
      refine ⟨(ls0 C_h), _, (lr0_5 C_h), ?_⟩
      refine ⟨(ls52 C_h), _, (lr52_1 C_h), ?_⟩
      refine ⟨(ls64 C_h), _, (lr64_1 C_h), ?_⟩
      obtain ⟨k17, w⟩ := w
      refine ⟨congrArg Prod.fst (ls66 C_h), ixs (ls66 C_h) k17 (by decide), ?_⟩
      refine ⟨fun c18 => ?_, fun c18 => ?_⟩
      · have t19 : ¬ aI h 66 x1 = x2 := (fun e => c18 ((Jeq (rg_toInt _) k11).mpr e))
        replace w := w.1 t19
        refine ⟨(ls0 C_h), ?_⟩
        obtain ⟨k22, w⟩ := w
        obtain ⟨k23, w⟩ := w
        obtain ⟨k24, w⟩ := w
        refine m87 (h := h)  (S := S) (pl := pl) (u := u) (V := V) C_h P_h K_h_0 (by omega) k22 k23 k24 ?_
        intro h21 s31 p32
        replace w := w h21 s31 p32
        refine ⟨rfl, ?_⟩
        have C_h21 := Lay_SH s31 C_h
        have K_h21_0 := PlanAt_SH s31 K_h_0
        have P_h21 := (congrFun (congrFun s31.2 52) 0).trans P_h
        try simp only [aI_wAL, fI_wAL, aL_wA, aL_wF, aI_wA_ne, aI_wF_ne, fI_wA_ne, fI_wF_ne, fI_wF_nk, aL_wAL_ne, J_sameA, J_sameF, aL_same, Nat.add_left_cancel_iff, Nat.add_eq_left, Nat.left_eq_add, not_false_eq_true, Nat.reduceEqDiff, Nat.reduceAdd, J_add, J_sub, J_mul, J_neg, J_and, J_or, J_xor, J_shl, J_shr, J_div, J_i2b, J_i2l, J_l2i, J_lcm, J_max, J_min, J_nab, J_nao, rdA, rdF, rdL, wA_fold, wF_fold, wL_fold, wC_fold]
        refine ⟨(ls0 C_h21), _, (lr0_5 C_h21), ?_⟩
        refine ⟨(ls52 C_h21), _, (lr52_1 C_h21), ?_⟩
        refine ⟨(ls64 C_h21), _, (lr64_1 C_h21), ?_⟩
        refine ⟨congrArg Prod.fst (ls66 C_h21), ixs (ls66 C_h21) k17 (by decide), ?_⟩
        refine ⟨(ls0 C_h21), _, (lr0_5 C_h21), ?_⟩
        refine ⟨(ls52 C_h21), _, (lr52_1 C_h21), ?_⟩
        refine ⟨(ls64 C_h21), _, (lr64_1 C_h21), ?_⟩
        refine ⟨congrArg Prod.fst (ls66 C_h21), ixs (ls66 C_h21) k17 (by decide), ?_⟩
        exact w
      · have t19 : aI h 66 x1 = x2 := ((Jeq (rg_toInt _) k11).mp (Classical.byContradiction c18))
        replace w := w.2 t19
        exact w
theorem m106 {X : Cst} {d : Nat} {pl : Nat} {p r u : Int} {V : Int → Int → Int} {S : Int → Int} {h : AH} {Q : Post} (C : Lay h) (P : hR h 52 0 = some pl) (K : PlanAt h pl) (hd : 3 ≤ d) (R : CS h pl S) (W : WF 999 S) (B : CP h u V) (g1 : -2147483648 ≤ p ∧ p < 2147483648) (g2 : -2147483648 ≤ r ∧ r < 2147483648)
    (k0 : ¬ ((0 ≤ p ∧ p < S 2) ∧ (0 ≤ r ∧ r < S 0) ∧ ¬ pS S p 1 = r) → Q (some (.int (J (-1)))) h)
    (k : ((0 ≤ p ∧ p < S 2) ∧ (0 ≤ r ∧ r < S 0) ∧ ¬ pS S p 1 = r) → ∀ h', Fr TAc h h' → CP h' (pshU u) (pshV u V S) → WorldRep h' 64 (uu_ S (10 + 6 * p + 1) r) → Q (some (.int (J (pS S p 1)))) h') : Ex X PG d 106 0 [some (.ref 0), some (.int (J p)), some (.int (J r)), none] [] h Q := by
  obtain ⟨d, rfl⟩ : ∃ e, d = e + 1 := ⟨d - 1, by omega⟩
  have b := W.1
  unfold WFb at b
  refine r106_0 (S := S) (u := u) (V := V) C K P (by omega) ⟨R, g1, fun c => k0 (fun z => c z.1), fun c => ⟨g2, fun c2 => k0 (fun z => c2 z.2.1), fun c2 => ⟨by omega, ?_⟩⟩⟩
  have w := (R.2.2.1.1 p c.1 c.2).2.1
  rw [show aI h 66 p = pS S p 1 from w]
  refine ⟨fun c3 => ⟨R.2.2.1, W, B, fun h21 s21 p21 => ?_⟩, fun c3 => k0 (fun z => z.2.2 c3)⟩
  have R2 : WorldRep h21 64 S := R.2.2.1.fr p21.1 (fun c k z => by omega)
  rw [show aI h21 66 p = pS S p 1 from (R2.1 p c.1 c.2).2.1]
  have F3 : Fr (fun c k => c = 66) h21 (wA h21 66 p r) := (Fr.rf (T := fun c k => c = 66)).wA rfl
  refine k ⟨c, c2, c3⟩ _ ((p21.1.mo fun c k z => by unfold TAc; omega).tr (F3.mo fun c k z => by unfold TAc; omega)) (p21.2.fr F3 (fun c k z => by omega)) (R2.up (i := 2) (by omega) c (by omega) g2)
theorem snd_WF {N : Int} {S : Int → Int} (W : WF N S) {p x q : Int} (H : sndP S p x q) : WF (N + 1) (sndS S p x q) ∧ Stat S (sndS S p x q) ∧ (∀ k, (k = 3 ∨ (34 ≤ k ∧ k < 2147483648)) → sndS S p x q k = S k) := by
  have b := W.1
  unfold WFb at b
  obtain ⟨hp, hx, ho, hpr, hq⟩ := H
  have dd := W.2.2.2.1 x hx.1 hx.2
  have pp := W.2.1 p hp.1 hp.2
  have kf : ∀ k, 0 ≤ k → k < 2147483648 → (k < 10 ∨ 34 ≤ k ∨ (k - 10) % 6 = 2) → sndS S p x q k = S k := by
    intro k k0 k1 k2
    unfold sndS
    by_cases c : q = -1
    · rw [if_pos c, uu_ne (by omega) (by omega) (by omega), uu_ne (by omega) (by omega) (by omega)]
    · have hq' : 0 ≤ q ∧ q < S 2 := by rcases hq with z | z; exact absurd z c; exact z.1
      rw [if_neg c, uu_ne (by omega) (by omega) (by omega), uu_ne (by omega) (by omega) (by omega), uu_ne (by omega) (by omega) (by omega), uu_ne (by omega) (by omega) (by omega), uu_ne (by omega) (by omega) (by omega)]
  have s : Stat S (sndS S p x q) := ⟨fun j _ _ => kf j (by omega) (by omega) (by omega), kf _ (by omega) (by omega) (by omega), kf _ (by omega) (by omega) (by omega), fun j _ _ => kf j (by omega) (by omega) (by omega), fun j _ _ => kf j (by omega) (by omega) (by omega), fun j _ _ => kf _ (by omega) (by omega) (by omega)⟩
  refine ⟨s.wf W (by rw [kf 3 (by omega) (by omega) (by omega)]; omega) (fun j _ _ => kf j (by omega) (by omega) (by omega)) (fun o o0 o1 => ?_), s, fun k hk => kf k (by omega) (by omega) (by omega)⟩
  have a := W.2.1 o o0 o1
  have gen : ∀ (U : Int → Int) (y w v w' : Int), 0 ≤ y → y < 4 → (0 ≤ w ∧ w < 6) → (0 ≤ w' ∧ w' < 6) → (pS (uu_ U (10 + 6 * y + w) v) o w' = v ∧ o = y ∧ w' = w) ∨ (pS (uu_ U (10 + 6 * y + w) v) o w' = pS U o w' ∧ ¬ (o = y ∧ w' = w)) := by
    intro U y w v w' y0 y1 hw hw'
    unfold pS
    by_cases e : o = y ∧ w' = w
    · refine Or.inl ⟨?_, e⟩
      obtain ⟨rfl, rfl⟩ := e
      exact uu_eq _ _ _
    · exact Or.inr ⟨uu_ne (by omega) (by omega) (by omega), e⟩
  have fin : ∀ w', (0 ≤ w' ∧ w' < 6) → pS (sndS S p x q) o w' = pS S o w' ∨ (w' = 0 ∧ (pS (sndS S p x q) o w' = fr S x ∨ pS (sndS S p x q) o w' = nr S x)) ∨ (w' = 4 ∧ pS (sndS S p x q) o w' = pS S o w' + 1) ∨ (w' = 3 ∧ pS (sndS S p x q) o w' = pS S o w' + 1) ∨ (w' = 5 ∧ pS (sndS S p x q) o w' = p) := by
    intro w' hw'
    unfold sndS
    by_cases c : q = -1
    · rw [if_pos c]
      rcases gen (uu_ S (10 + 6 * p + 0) (fr S x)) p 4 (pS S p 4 + 1) w' hp.1 (by omega) (by omega) hw' with ⟨e, e1, e2⟩ | ⟨e, -⟩
      · rw [e]; subst e1; subst e2; omega
      · rw [e]
        rcases gen S p 0 (fr S x) w' hp.1 (by omega) (by omega) hw' with ⟨e, e1, e2⟩ | ⟨e, -⟩
        · rw [e]; omega
        · rw [e]; omega
    · have hq' : 0 ≤ q ∧ q < S 2 := by rcases hq with z | z; exact absurd z c; exact z.1
      rw [if_neg c]
      rcases gen (uu_ (uu_ (uu_ (uu_ S (10 + 6 * p + 0) (fr S x)) (10 + 6 * p + 4) (pS S p 4 + 1)) (10 + 6 * q + 0) (nr S x)) (10 + 6 * q + 3) (pS S q 3 + 1)) q 5 p w' hq'.1 (by omega) (by omega) hw' with ⟨e, e1, e2⟩ | ⟨e, -⟩
      · rw [e]; omega
      · rw [e]
        rcases gen (uu_ (uu_ (uu_ S (10 + 6 * p + 0) (fr S x)) (10 + 6 * p + 4) (pS S p 4 + 1)) (10 + 6 * q + 0) (nr S x)) q 3 (pS S q 3 + 1) w' hq'.1 (by omega) (by omega) hw' with ⟨e, e1, e2⟩ | ⟨e, -⟩
        · rw [e]; subst e1; subst e2; omega
        · rw [e]
          rcases gen (uu_ (uu_ S (10 + 6 * p + 0) (fr S x)) (10 + 6 * p + 4) (pS S p 4 + 1)) q 0 (nr S x) w' hq'.1 (by omega) (by omega) hw' with ⟨e, e1, e2⟩ | ⟨e, -⟩
          · rw [e]; omega
          · rw [e]
            rcases gen (uu_ S (10 + 6 * p + 0) (fr S x)) p 4 (pS S p 4 + 1) w' hp.1 (by omega) (by omega) hw' with ⟨e, e1, e2⟩ | ⟨e, -⟩
            · rw [e]; subst e1; subst e2; omega
            · rw [e]
              rcases gen S p 0 (fr S x) w' hp.1 (by omega) (by omega) hw' with ⟨e, e1, e2⟩ | ⟨e, -⟩
              · rw [e]; omega
              · rw [e]; omega
  have f0 := fin 0 (by omega)
  have f1 := fin 1 (by omega)
  have f3 := fin 3 (by omega)
  have f4 := fin 4 (by omega)
  have f5 := fin 5 (by omega)
  omega
-- OutwardDoors.send(III)Z at 0
set_option maxRecDepth 20000 in
set_option maxHeartbeats 4000000 in
theorem r107_0 {X : Cst} {d : Nat} {x1 : Int} {x2 : Int} {x3 : Int} {pl : Nat} {S : Int → Int} {V : Int → Int → Int} {u : Int} {h : AH} {Q : Post} (C_h : Lay h) (K_h_0 : PlanAt h pl) (P_h : hR h 52 0 = some pl) (hd : 3 ≤ d)
  (w : (CS h pl S) ∧ (-2147483648 ≤ x1 ∧ x1 < 2147483648) ∧ ((¬ (0 ≤ x1 ∧ x1 < S 2) → Q (some (.int (J 0))) h) ∧ ((0 ≤ x1 ∧ x1 < S 2) → (-2147483648 ≤ x2 ∧ x2 < 2147483648) ∧ ((¬ (0 ≤ x2 ∧ x2 < S 1) → Q (some (.int (J 0))) h) ∧ ((0 ≤ x2 ∧ x2 < S 1) → (WF 999 S) ∧ (PlanRep h pl S) ∧ (0 ≤ (bI (nightP S)) ∧ (bI (nightP S)) < 2) ∧ (0 ≤ x2 ∧ x2 < 14) ∧ (((x2 < S 1 ∧ opn S ((bI (nightP S)) = 1) x2) → (0 ≤ x1 ∧ x1 < 4) ∧ ((aI h 65 x1 = aI h (pl + 2) x2 → (-2147483648 ≤ x3 ∧ x3 < 2147483648) ∧ ((¬ x3 = (-1) → ((¬ (0 ≤ x3 ∧ x3 < S 2) → Q (some (.int (J 0))) h) ∧ ((0 ≤ x3 ∧ x3 < S 2) → ((x3 = x1 → Q (some (.int (J 0))) h) ∧ (¬ x3 = x1 → (0 ≤ x3 ∧ x3 < 4) ∧ ((aI h 65 x3 = aI h (pl + 3) x2 → (WorldRep h 64 S) ∧ (CP h u V) ∧ (∀ h72, SH h h72 → (Fr (fun c j => (121 ≤ c ∧ c ≤ 240) ∨ (c = 0 ∧ (j = 14 ∨ j = 15))) h h72 ∧ CP h72 (pshU u) (pshV u V S)) → Q (some (.int (J 1))) (wA (wA (wA (wA (wA h72 (64 + 1) x1 (aI h72 (pl + 3) x2)) (64 + 4) x1 (aI h72 (64 + 4) x1 + 1)) (64 + 1) x3 (aI (wA (wA h72 (64 + 1) x1 (aI h72 (pl + 3) x2)) (64 + 4) x1 (aI h72 (64 + 4) x1 + 1)) (pl + 2) x2)) (64 + 3) x3 (aI h72 (64 + 3) x3 + 1)) (64 + 5) x3 x1))) ∧ (¬ aI h 65 x3 = aI h (pl + 3) x2 → Q (some (.int (J 0))) h))))))) ∧ (x3 = (-1) → (WorldRep h 64 S) ∧ (CP h u V) ∧ (∀ h88, SH h h88 → (Fr (fun c j => (121 ≤ c ∧ c ≤ 240) ∨ (c = 0 ∧ (j = 14 ∨ j = 15))) h h88 ∧ CP h88 (pshU u) (pshV u V S)) → Q (some (.int (J 1))) (wA (wA h88 (64 + 1) x1 (aI h88 (pl + 3) x2)) (64 + 4) x1 (aI h88 (64 + 4) x1 + 1)))))) ∧ (¬ aI h 65 x1 = aI h (pl + 2) x2 → Q (some (.int (J 0))) h))) ∧ (¬ (x2 < S 1 ∧ opn S ((bI (nightP S)) = 1) x2) → Q (some (.int (J 0))) h))))))) :
    Ex X PG (d + 1) 107 0 [some (.ref 0), some (.int (J x1)), some (.int (J x2)), some (.int (J x3)), none, none] [] h Q := by
  refine wpx_ok (cut := []) 82 d 107 0 _ _ _ _ ?_
  show hs h 0 = (0, 10) ∧ Ex X PG d 75 0 [some (.ref 0), some (.int (J x1))] [] h (fun v1 h2 => ∃ r3, v1 = some (.int r3) ∧ ((r3 = (J 0) → (J 0 = J 0 ∨ J 0 = J 1) ∧ Q (some (.int (J 0))) h2) ∧ (¬ (r3 = (J 0)) → hs h2 0 = (0, 10) ∧ Ex X PG d 84 0 [some (.ref 0), some (.int (J x2))] [] h2 (fun v8 h9 => ∃ r10, v8 = some (.int r10) ∧ ((r10 = (J 0) → (J 0 = J 0 ∨ J 0 = J 1) ∧ Q (some (.int (J 0))) h9) ∧ (¬ (r10 = (J 0)) → hs h9 0 = (0, 10) ∧ ∃ q14, hR h9 0 5 = some q14 ∧ hs h9 q14 = (0, 6) ∧ ∃ q15, hR h9 q14 0 = some q15 ∧ hs h9 0 = (0, 10) ∧ Ex X PG d 76 0 [some (.ref 0)] [] h9 (fun v16 h17 => ∃ r18, v16 = some (.int r18) ∧ hs h17 q15 = (0, 2) ∧ Ex X PG d 52 0 [some (.ref q15), some (.int r18), some (.int (J x2))] [] h17 (fun v20 h21 => ∃ r22, v20 = some (.int r22) ∧ ((¬ r22 = (J 0) → hs h21 0 = (0, 10) ∧ ∃ q28, hR h21 0 5 = some q28 ∧ hs h21 q28 = (0, 6) ∧ ∃ q29, hR h21 q28 1 = some q29 ∧ hs h21 q29 = (0, 9) ∧ ∃ q30, hR h21 q29 0 = some q30 ∧ (hs h21 q30).1 = 1 ∧ ix (J x1) (hs h21 q30).2 ∧ hs h21 0 = (0, 10) ∧ ∃ q32, hR h21 0 5 = some q32 ∧ hs h21 q32 = (0, 6) ∧ ∃ q33, hR h21 q32 0 = some q33 ∧ hs h21 q33 = (0, 2) ∧ ∃ q34, hR h21 q33 7 = some q34 ∧ (hs h21 q34).1 = 1 ∧ ix (J x2) (hs h21 q34).2 ∧ (((hI h21 q30 (Int32.toNatClampNeg (J x1))) = (hI h21 q34 (Int32.toNatClampNeg (J x2))) → ((¬ (J x3) = (J (-1)) → ((¬ (J 0) = (J 0) → hs h21 0 = (0, 10) ∧ Ex X PG d 87 0 [some (.ref 0)] [] h21 (fun v40 h41 => v40 = none ∧ hs h41 0 = (0, 10) ∧ ∃ q44, hR h41 0 5 = some q44 ∧ hs h41 q44 = (0, 6) ∧ ∃ q45, hR h41 q44 0 = some q45 ∧ hs h41 q45 = (0, 2) ∧ ∃ q46, hR h41 q45 8 = some q46 ∧ (hs h41 q46).1 = 1 ∧ ix (J x2) (hs h41 q46).2 ∧ hs h41 q29 = (0, 9) ∧ Ex X PG d 102 0 [some (.ref q29), some (.int (J x1)), some (.int (hI h41 q46 (Int32.toNatClampNeg (J x2))))] [] h41 (fun v47 h48 => v47 = none ∧ ((¬ (J 0) = (J 0) → (J 1 = J 0 ∨ J 1 = J 1) ∧ Q (some (.int (J 1))) h48) ∧ (¬ (¬ (J 0) = (J 0)) → hs h48 0 = (0, 10) ∧ ∃ q49, hR h48 0 5 = some q49 ∧ hs h48 q49 = (0, 6) ∧ ∃ q50, hR h48 q49 0 = some q50 ∧ hs h48 q50 = (0, 2) ∧ ∃ q51, hR h48 q50 7 = some q51 ∧ (hs h48 q51).1 = 1 ∧ ix (J x2) (hs h48 q51).2 ∧ hs h48 q29 = (0, 9) ∧ Ex X PG d 105 0 [some (.ref q29), some (.int (J x3)), some (.int (hI h48 q51 (Int32.toNatClampNeg (J x2)))), some (.int (J x1))] [] h48 (fun v52 h53 => v52 = none ∧ (J 1 = J 0 ∨ J 1 = J 1) ∧ Q (some (.int (J 1))) h53)))))) ∧ (¬ (¬ (J 0) = (J 0)) → hs h21 0 = (0, 10) ∧ Ex X PG d 75 0 [some (.ref 0), some (.int (J x3))] [] h21 (fun v57 h58 => ∃ r59, v57 = some (.int r59) ∧ ((r59 = (J 0) → (J 0 = J 0 ∨ J 0 = J 1) ∧ Q (some (.int (J 0))) h58) ∧ (¬ (r59 = (J 0)) → (((J x3) = (J x1) → (J 0 = J 0 ∨ J 0 = J 1) ∧ Q (some (.int (J 0))) h58) ∧ (¬ ((J x3) = (J x1)) → hs h58 q29 = (0, 9) ∧ ∃ q64, hR h58 q29 0 = some q64 ∧ (hs h58 q64).1 = 1 ∧ ix (J x3) (hs h58 q64).2 ∧ hs h58 0 = (0, 10) ∧ ∃ q66, hR h58 0 5 = some q66 ∧ hs h58 q66 = (0, 6) ∧ ∃ q67, hR h58 q66 0 = some q67 ∧ hs h58 q67 = (0, 2) ∧ ∃ q68, hR h58 q67 8 = some q68 ∧ (hs h58 q68).1 = 1 ∧ ix (J x2) (hs h58 q68).2 ∧ (((hI h58 q64 (Int32.toNatClampNeg (J x3))) = (hI h58 q68 (Int32.toNatClampNeg (J x2))) → hs h58 0 = (0, 10) ∧ Ex X PG d 87 0 [some (.ref 0)] [] h58 (fun v71 h72 => v71 = none ∧ hs h72 0 = (0, 10) ∧ ∃ q75, hR h72 0 5 = some q75 ∧ hs h72 q75 = (0, 6) ∧ ∃ q76, hR h72 q75 0 = some q76 ∧ hs h72 q76 = (0, 2) ∧ ∃ q77, hR h72 q76 8 = some q77 ∧ (hs h72 q77).1 = 1 ∧ ix (J x2) (hs h72 q77).2 ∧ hs h72 q29 = (0, 9) ∧ Ex X PG d 102 0 [some (.ref q29), some (.int (J x1)), some (.int (hI h72 q77 (Int32.toNatClampNeg (J x2))))] [] h72 (fun v78 h79 => v78 = none ∧ ((¬ (J 0) = (J 0) → (J 1 = J 0 ∨ J 1 = J 1) ∧ Q (some (.int (J 1))) h79) ∧ (¬ (¬ (J 0) = (J 0)) → hs h79 0 = (0, 10) ∧ ∃ q80, hR h79 0 5 = some q80 ∧ hs h79 q80 = (0, 6) ∧ ∃ q81, hR h79 q80 0 = some q81 ∧ hs h79 q81 = (0, 2) ∧ ∃ q82, hR h79 q81 7 = some q82 ∧ (hs h79 q82).1 = 1 ∧ ix (J x2) (hs h79 q82).2 ∧ hs h79 q29 = (0, 9) ∧ Ex X PG d 105 0 [some (.ref q29), some (.int (J x3)), some (.int (hI h79 q82 (Int32.toNatClampNeg (J x2)))), some (.int (J x1))] [] h79 (fun v83 h84 => v83 = none ∧ (J 1 = J 0 ∨ J 1 = J 1) ∧ Q (some (.int (J 1))) h84)))))) ∧ (¬ ((hI h58 q64 (Int32.toNatClampNeg (J x3))) = (hI h58 q68 (Int32.toNatClampNeg (J x2)))) → (J 0 = J 0 ∨ J 0 = J 1) ∧ Q (some (.int (J 0))) h58)))))))))) ∧ (¬ (¬ (J x3) = (J (-1))) → ((¬ (J 1) = (J 0) → hs h21 0 = (0, 10) ∧ Ex X PG d 87 0 [some (.ref 0)] [] h21 (fun v87 h88 => v87 = none ∧ hs h88 0 = (0, 10) ∧ ∃ q91, hR h88 0 5 = some q91 ∧ hs h88 q91 = (0, 6) ∧ ∃ q92, hR h88 q91 0 = some q92 ∧ hs h88 q92 = (0, 2) ∧ ∃ q93, hR h88 q92 8 = some q93 ∧ (hs h88 q93).1 = 1 ∧ ix (J x2) (hs h88 q93).2 ∧ hs h88 q29 = (0, 9) ∧ Ex X PG d 102 0 [some (.ref q29), some (.int (J x1)), some (.int (hI h88 q93 (Int32.toNatClampNeg (J x2))))] [] h88 (fun v94 h95 => v94 = none ∧ ((¬ (J 1) = (J 0) → (J 1 = J 0 ∨ J 1 = J 1) ∧ Q (some (.int (J 1))) h95) ∧ (¬ (¬ (J 1) = (J 0)) → hs h95 0 = (0, 10) ∧ ∃ q96, hR h95 0 5 = some q96 ∧ hs h95 q96 = (0, 6) ∧ ∃ q97, hR h95 q96 0 = some q97 ∧ hs h95 q97 = (0, 2) ∧ ∃ q98, hR h95 q97 7 = some q98 ∧ (hs h95 q98).1 = 1 ∧ ix (J x2) (hs h95 q98).2 ∧ hs h95 q29 = (0, 9) ∧ Ex X PG d 105 0 [some (.ref q29), some (.int (J x3)), some (.int (hI h95 q98 (Int32.toNatClampNeg (J x2)))), some (.int (J x1))] [] h95 (fun v99 h100 => v99 = none ∧ (J 1 = J 0 ∨ J 1 = J 1) ∧ Q (some (.int (J 1))) h100)))))) ∧ (¬ (¬ (J 1) = (J 0)) → hs h21 0 = (0, 10) ∧ Ex X PG d 75 0 [some (.ref 0), some (.int (J x3))] [] h21 (fun v104 h105 => ∃ r106, v104 = some (.int r106) ∧ ((r106 = (J 0) → (J 0 = J 0 ∨ J 0 = J 1) ∧ Q (some (.int (J 0))) h105) ∧ (¬ (r106 = (J 0)) → (((J x3) = (J x1) → (J 0 = J 0 ∨ J 0 = J 1) ∧ Q (some (.int (J 0))) h105) ∧ (¬ ((J x3) = (J x1)) → hs h105 q29 = (0, 9) ∧ ∃ q111, hR h105 q29 0 = some q111 ∧ (hs h105 q111).1 = 1 ∧ ix (J x3) (hs h105 q111).2 ∧ hs h105 0 = (0, 10) ∧ ∃ q113, hR h105 0 5 = some q113 ∧ hs h105 q113 = (0, 6) ∧ ∃ q114, hR h105 q113 0 = some q114 ∧ hs h105 q114 = (0, 2) ∧ ∃ q115, hR h105 q114 8 = some q115 ∧ (hs h105 q115).1 = 1 ∧ ix (J x2) (hs h105 q115).2 ∧ (((hI h105 q111 (Int32.toNatClampNeg (J x3))) = (hI h105 q115 (Int32.toNatClampNeg (J x2))) → hs h105 0 = (0, 10) ∧ Ex X PG d 87 0 [some (.ref 0)] [] h105 (fun v118 h119 => v118 = none ∧ hs h119 0 = (0, 10) ∧ ∃ q122, hR h119 0 5 = some q122 ∧ hs h119 q122 = (0, 6) ∧ ∃ q123, hR h119 q122 0 = some q123 ∧ hs h119 q123 = (0, 2) ∧ ∃ q124, hR h119 q123 8 = some q124 ∧ (hs h119 q124).1 = 1 ∧ ix (J x2) (hs h119 q124).2 ∧ hs h119 q29 = (0, 9) ∧ Ex X PG d 102 0 [some (.ref q29), some (.int (J x1)), some (.int (hI h119 q124 (Int32.toNatClampNeg (J x2))))] [] h119 (fun v125 h126 => v125 = none ∧ ((¬ (J 1) = (J 0) → (J 1 = J 0 ∨ J 1 = J 1) ∧ Q (some (.int (J 1))) h126) ∧ (¬ (¬ (J 1) = (J 0)) → hs h126 0 = (0, 10) ∧ ∃ q127, hR h126 0 5 = some q127 ∧ hs h126 q127 = (0, 6) ∧ ∃ q128, hR h126 q127 0 = some q128 ∧ hs h126 q128 = (0, 2) ∧ ∃ q129, hR h126 q128 7 = some q129 ∧ (hs h126 q129).1 = 1 ∧ ix (J x2) (hs h126 q129).2 ∧ hs h126 q29 = (0, 9) ∧ Ex X PG d 105 0 [some (.ref q29), some (.int (J x3)), some (.int (hI h126 q129 (Int32.toNatClampNeg (J x2)))), some (.int (J x1))] [] h126 (fun v130 h131 => v130 = none ∧ (J 1 = J 0 ∨ J 1 = J 1) ∧ Q (some (.int (J 1))) h131)))))) ∧ (¬ ((hI h105 q111 (Int32.toNatClampNeg (J x3))) = (hI h105 q115 (Int32.toNatClampNeg (J x2)))) → (J 0 = J 0 ∨ J 0 = J 1) ∧ Q (some (.int (J 0))) h105)))))))))))) ∧ (¬ ((hI h21 q30 (Int32.toNatClampNeg (J x1))) = (hI h21 q34 (Int32.toNatClampNeg (J x2)))) → (J 0 = J 0 ∨ J 0 = J 1) ∧ Q (some (.int (J 0))) h21))) ∧ (¬ (¬ r22 = (J 0)) → (J 0 = J 0 ∨ J 0 = J 1) ∧ Q (some (.int (J 0))) h21))))))))))
  try simp only [aI_wAL, fI_wAL, aL_wA, aL_wF, aI_wA_ne, aI_wF_ne, fI_wA_ne, fI_wF_ne, fI_wF_nk, aL_wAL_ne, J_sameA, J_sameF, aL_same, Nat.add_left_cancel_iff, Nat.add_eq_left, Nat.left_eq_add, not_false_eq_true, Nat.reduceEqDiff, Nat.reduceAdd, J_add, J_sub, J_mul, J_neg, J_and, J_or, J_xor, J_shl, J_shr, J_div, J_i2b, J_i2l, J_l2i, J_lcm, J_max, J_min, J_nab, J_nao, rdA, rdF, rdL, wA_fold, wF_fold, wL_fold, wC_fold]
  refine ⟨(ls0 C_h), ?_⟩
  obtain ⟨k4, w⟩ := w
  obtain ⟨k5, w⟩ := w
  refine m75 (h := h) (x := x1) (S := S) (pl := pl) C_h P_h K_h_0 (by omega) k4 k5 ?_
  refine ⟨_, rfl, ?_⟩
  try simp only [aI_wAL, fI_wAL, aL_wA, aL_wF, aI_wA_ne, aI_wF_ne, fI_wA_ne, fI_wF_ne, fI_wF_nk, aL_wAL_ne, J_sameA, J_sameF, aL_same, Nat.add_left_cancel_iff, Nat.add_eq_left, Nat.left_eq_add, not_false_eq_true, Nat.reduceEqDiff, Nat.reduceAdd, J_add, J_sub, J_mul, J_neg, J_and, J_or, J_xor, J_shl, J_shr, J_div, J_i2b, J_i2l, J_l2i, J_lcm, J_max, J_min, J_nab, J_nao, rdA, rdF, rdL, wA_fold, wF_fold, wL_fold, wC_fold]
  refine ⟨fun c6 => ?_, fun c6 => ?_⟩
  · have t7 : ¬ (0 ≤ x1 ∧ x1 < S 2) := ((bI0 _).mp c6)
    replace w := w.1 t7
    exact ⟨(Or.inl (by trivial)), w⟩
  · have t7 : (0 ≤ x1 ∧ x1 < S 2) := (Classical.byContradiction fun n => c6 ((bI0 _).mpr n))
    replace w := w.2 t7
    refine ⟨(ls0 C_h), ?_⟩
    obtain ⟨k11, w⟩ := w
    refine m84 (h := h) (x := x2) (S := S) (pl := pl) C_h P_h K_h_0 (by omega) k4 k11 ?_
    refine ⟨_, rfl, ?_⟩
    try simp only [aI_wAL, fI_wAL, aL_wA, aL_wF, aI_wA_ne, aI_wF_ne, fI_wA_ne, fI_wF_ne, fI_wF_nk, aL_wAL_ne, J_sameA, J_sameF, aL_same, Nat.add_left_cancel_iff, Nat.add_eq_left, Nat.left_eq_add, not_false_eq_true, Nat.reduceEqDiff, Nat.reduceAdd, J_add, J_sub, J_mul, J_neg, J_and, J_or, J_xor, J_shl, J_shr, J_div, J_i2b, J_i2l, J_l2i, J_lcm, J_max, J_min, J_nab, J_nao, rdA, rdF, rdL, wA_fold, wF_fold, wL_fold, wC_fold]
    refine ⟨fun c12 => ?_, fun c12 => ?_⟩
    · have t13 : ¬ (0 ≤ x2 ∧ x2 < S 1) := ((bI0 _).mp c12)
      replace w := w.1 t13
      exact ⟨(Or.inl (by trivial)), w⟩
    · have t13 : (0 ≤ x2 ∧ x2 < S 1) := (Classical.byContradiction fun n => c12 ((bI0 _).mpr n))
      replace w := w.2 t13
      refine ⟨(ls0 C_h), _, (lr0_5 C_h), ?_⟩
      refine ⟨(ls52 C_h), _, P_h, ?_⟩
      refine ⟨(ls0 C_h), ?_⟩
      obtain ⟨k19, w⟩ := w
      refine m76 (h := h)  (S := S) (pl := pl) C_h P_h K_h_0 (by omega) k4 k19 ?_
      refine ⟨_, rfl, ?_⟩
      try simp only [aI_wAL, fI_wAL, aL_wA, aL_wF, aI_wA_ne, aI_wF_ne, fI_wA_ne, fI_wF_ne, fI_wF_nk, aL_wAL_ne, J_sameA, J_sameF, aL_same, Nat.add_left_cancel_iff, Nat.add_eq_left, Nat.left_eq_add, not_false_eq_true, Nat.reduceEqDiff, Nat.reduceAdd, J_add, J_sub, J_mul, J_neg, J_and, J_or, J_xor, J_shl, J_shr, J_div, J_i2b, J_i2l, J_l2i, J_lcm, J_max, J_min, J_nab, J_nao, rdA, rdF, rdL, wA_fold, wF_fold, wL_fold, wC_fold]
      refine ⟨(plan_0 K_h_0), ?_⟩
      obtain ⟨k23, w⟩ := w
      obtain ⟨k24, w⟩ := w
      obtain ⟨k25, w⟩ := w
      refine m52 (h := h) (a := pl) (r := (bI (nightP S))) (x := x2) (S := S) C_h K_h_0 (by omega) k23 k24 k25 ?_
      refine ⟨_, rfl, ?_⟩
      try simp only [aI_wAL, fI_wAL, aL_wA, aL_wF, aI_wA_ne, aI_wF_ne, fI_wA_ne, fI_wF_ne, fI_wF_nk, aL_wAL_ne, J_sameA, J_sameF, aL_same, Nat.add_left_cancel_iff, Nat.add_eq_left, Nat.left_eq_add, not_false_eq_true, Nat.reduceEqDiff, Nat.reduceAdd, J_add, J_sub, J_mul, J_neg, J_and, J_or, J_xor, J_shl, J_shr, J_div, J_i2b, J_i2l, J_l2i, J_lcm, J_max, J_min, J_nab, J_nao, rdA, rdF, rdL, wA_fold, wF_fold, wL_fold, wC_fold]
      refine ⟨fun c26 => ?_, fun c26 => ?_⟩
      · have t27 : (x2 < S 1 ∧ opn S ((bI (nightP S)) = 1) x2) := (Classical.byContradiction fun n => c26 ((bI0 _).mpr n))
        replace w := w.1 t27
        refine ⟨(ls0 C_h), _, (lr0_5 C_h), ?_⟩
        refine ⟨(ls52 C_h), _, (lr52_1 C_h), ?_⟩
        refine ⟨(ls64 C_h), _, (lr64_0 C_h), ?_⟩
        obtain ⟨k31, w⟩ := w
        refine ⟨congrArg Prod.fst (ls65 C_h), ixs (ls65 C_h) k31 (by decide), ?_⟩
        refine ⟨(ls0 C_h), _, (lr0_5 C_h), ?_⟩
        refine ⟨(ls52 C_h), _, P_h, ?_⟩
        refine ⟨(plan_0 K_h_0), _, (plan_12 K_h_0), ?_⟩
        refine ⟨congrArg Prod.fst (plan_2 K_h_0), ixs (plan_2 K_h_0) k25 (by decide), ?_⟩
        refine ⟨fun c35 => ?_, fun c35 => ?_⟩
        · have t36 : aI h 65 x1 = aI h (pl + 2) x2 := ((Jeq (rg_toInt _) (rg_toInt _)).mp c35)
          replace w := w.1 t36
          obtain ⟨k39, w⟩ := w
          refine ⟨fun c37 => ?_, fun c37 => ?_⟩
          · have t38 : ¬ x3 = (-1) := (fun e => c37 ((Jeq k39 (by decide)).mpr e))
            replace w := w.1 t38
            refine ⟨fun c => absurd c (by decide), fun _ => ?_⟩
            refine ⟨(ls0 C_h), ?_⟩
            refine m75 (h := h) (x := x3) (S := S) (pl := pl) C_h P_h K_h_0 (by omega) k4 k39 ?_
            refine ⟨_, rfl, ?_⟩
            try simp only [aI_wAL, fI_wAL, aL_wA, aL_wF, aI_wA_ne, aI_wF_ne, fI_wA_ne, fI_wF_ne, fI_wF_nk, aL_wAL_ne, J_sameA, J_sameF, aL_same, Nat.add_left_cancel_iff, Nat.add_eq_left, Nat.left_eq_add, not_false_eq_true, Nat.reduceEqDiff, Nat.reduceAdd, J_add, J_sub, J_mul, J_neg, J_and, J_or, J_xor, J_shl, J_shr, J_div, J_i2b, J_i2l, J_l2i, J_lcm, J_max, J_min, J_nab, J_nao, rdA, rdF, rdL, wA_fold, wF_fold, wL_fold, wC_fold]
            refine ⟨fun c60 => ?_, fun c60 => ?_⟩
            · have t61 : ¬ (0 ≤ x3 ∧ x3 < S 2) := ((bI0 _).mp c60)
              replace w := w.1 t61
              exact ⟨(Or.inl (by trivial)), w⟩
            · have t61 : (0 ≤ x3 ∧ x3 < S 2) := (Classical.byContradiction fun n => c60 ((bI0 _).mpr n))
              replace w := w.2 t61
              refine ⟨fun c62 => ?_, fun c62 => ?_⟩
              · have t63 : x3 = x1 := ((Jeq k39 k5).mp c62)
                replace w := w.1 t63
                exact ⟨(Or.inl (by trivial)), w⟩
              · have t63 : ¬ x3 = x1 := (fun e => c62 ((Jeq k39 k5).mpr e))
                replace w := w.2 t63
                refine ⟨(ls64 C_h), _, (lr64_0 C_h), ?_⟩
                obtain ⟨k65, w⟩ := w
                refine ⟨congrArg Prod.fst (ls65 C_h), ixs (ls65 C_h) k65 (by decide), ?_⟩
                refine ⟨(ls0 C_h), _, (lr0_5 C_h), ?_⟩
                refine ⟨(ls52 C_h), _, P_h, ?_⟩
                refine ⟨(plan_0 K_h_0), _, (plan_13 K_h_0), ?_⟩
                refine ⟨congrArg Prod.fst (plan_3 K_h_0), ixs (plan_3 K_h_0) k25 (by decide), ?_⟩
                refine ⟨fun c69 => ?_, fun c69 => ?_⟩
                · have t70 : aI h 65 x3 = aI h (pl + 3) x2 := ((Jeq (rg_toInt _) (rg_toInt _)).mp c69)
                  replace w := w.1 t70
                  refine ⟨(ls0 C_h), ?_⟩
                  obtain ⟨k73, w⟩ := w
                  obtain ⟨k74, w⟩ := w
                  refine m87 (h := h)  (S := S) (pl := pl) (u := u) (V := V) C_h P_h K_h_0 (by omega) k73 k19 k74 ?_
                  intro h72 s85 p86
                  replace w := w h72 s85 p86
                  refine ⟨rfl, ?_⟩
                  have C_h72 := Lay_SH s85 C_h
                  have K_h72_0 := PlanAt_SH s85 K_h_0
                  have P_h72 := (congrFun (congrFun s85.2 52) 0).trans P_h
                  try simp only [aI_wAL, fI_wAL, aL_wA, aL_wF, aI_wA_ne, aI_wF_ne, fI_wA_ne, fI_wF_ne, fI_wF_nk, aL_wAL_ne, J_sameA, J_sameF, aL_same, Nat.add_left_cancel_iff, Nat.add_eq_left, Nat.left_eq_add, not_false_eq_true, Nat.reduceEqDiff, Nat.reduceAdd, J_add, J_sub, J_mul, J_neg, J_and, J_or, J_xor, J_shl, J_shr, J_div, J_i2b, J_i2l, J_l2i, J_lcm, J_max, J_min, J_nab, J_nao, rdA, rdF, rdL, wA_fold, wF_fold, wL_fold, wC_fold]
                  refine ⟨(ls0 C_h72), _, (lr0_5 C_h72), ?_⟩
                  refine ⟨(ls52 C_h72), _, P_h72, ?_⟩
                  refine ⟨(plan_0 K_h72_0), _, (plan_13 K_h72_0), ?_⟩
                  refine ⟨congrArg Prod.fst (plan_3 K_h72_0), ixs (plan_3 K_h72_0) k25 (by decide), ?_⟩
                  refine ⟨(ls64 C_h72), ?_⟩
                  refine m102 (h := h72) (a := 64) (p := x1) (t := (aI h72 (pl + 3) x2)) C_h72 (WorldAt_64 C_h72) (by omega) k31 ?_
                  refine ⟨rfl, ?_⟩
                  try simp only [aI_wAL, fI_wAL, aL_wA, aL_wF, aI_wA_ne, aI_wF_ne, fI_wA_ne, fI_wF_ne, fI_wF_nk, aL_wAL_ne, J_sameA, J_sameF, aL_same, Nat.add_left_cancel_iff, Nat.add_eq_left, Nat.left_eq_add, not_false_eq_true, Nat.reduceEqDiff, Nat.reduceAdd, J_add, J_sub, J_mul, J_neg, J_and, J_or, J_xor, J_shl, J_shr, J_div, J_i2b, J_i2l, J_l2i, J_lcm, J_max, J_min, J_nab, J_nao, rdA, rdF, rdL, wA_fold, wF_fold, wL_fold, wC_fold]
                  refine ⟨fun c => absurd c (by decide), fun _ => ?_⟩
                  refine ⟨(ls0 C_h72), _, (lr0_5 C_h72), ?_⟩
                  refine ⟨(ls52 C_h72), _, P_h72, ?_⟩
                  refine ⟨(plan_0 K_h72_0), _, (plan_12 K_h72_0), ?_⟩
                  refine ⟨congrArg Prod.fst (plan_2 K_h72_0), ixs (plan_2 K_h72_0) k25 (by decide), ?_⟩
                  refine ⟨(ls64 C_h72), ?_⟩
                  refine m105 (h := wA (wA h72 (64 + 1) x1 (aI h72 (pl + 3) x2)) (64 + 4) x1 (aI h72 (64 + 4) x1 + 1)) (a := 64) (p := x3) (t := (aI (wA (wA h72 (64 + 1) x1 (aI h72 (pl + 3) x2)) (64 + 4) x1 (aI h72 (64 + 4) x1 + 1)) (pl + 2) x2)) (b := x1) C_h72 (WorldAt_64 C_h72) (by omega) (by first | exact k65 | (simp only [aI_wAL, fI_wAL, aL_wA, aL_wF, aI_wA_ne, aI_wF_ne, fI_wA_ne, fI_wF_ne, fI_wF_nk, aL_wAL_ne, Nat.add_left_cancel_iff, Nat.add_eq_left, Nat.left_eq_add, not_false_eq_true, Nat.reduceEqDiff]; exact k65)) ?_
                  refine ⟨rfl, ?_⟩
                  try simp only [aI_wAL, fI_wAL, aL_wA, aL_wF, aI_wA_ne, aI_wF_ne, fI_wA_ne, fI_wF_ne, fI_wF_nk, aL_wAL_ne, J_sameA, J_sameF, aL_same, Nat.add_left_cancel_iff, Nat.add_eq_left, Nat.left_eq_add, not_false_eq_true, Nat.reduceEqDiff, Nat.reduceAdd, J_add, J_sub, J_mul, J_neg, J_and, J_or, J_xor, J_shl, J_shr, J_div, J_i2b, J_i2l, J_l2i, J_lcm, J_max, J_min, J_nab, J_nao, rdA, rdF, rdL, wA_fold, wF_fold, wL_fold, wC_fold]
                  exact ⟨(Or.inr (by trivial)), w⟩
                · have t70 : ¬ aI h 65 x3 = aI h (pl + 3) x2 := (fun e => c69 ((Jeq (rg_toInt _) (rg_toInt _)).mpr e))
                  replace w := w.2 t70
                  exact ⟨(Or.inl (by trivial)), w⟩
          · have t38 : x3 = (-1) := ((Jeq k39 (by decide)).mp (Classical.byContradiction c37))
            replace w := w.2 t38
            refine ⟨fun _ => ?_, fun c => absurd (by decide) c⟩
            refine ⟨(ls0 C_h), ?_⟩
            obtain ⟨k89, w⟩ := w
            obtain ⟨k90, w⟩ := w
            refine m87 (h := h)  (S := S) (pl := pl) (u := u) (V := V) C_h P_h K_h_0 (by omega) k89 k19 k90 ?_
            intro h88 s102 p103
            replace w := w h88 s102 p103
            refine ⟨rfl, ?_⟩
            have C_h88 := Lay_SH s102 C_h
            have K_h88_0 := PlanAt_SH s102 K_h_0
            have P_h88 := (congrFun (congrFun s102.2 52) 0).trans P_h
            try simp only [aI_wAL, fI_wAL, aL_wA, aL_wF, aI_wA_ne, aI_wF_ne, fI_wA_ne, fI_wF_ne, fI_wF_nk, aL_wAL_ne, J_sameA, J_sameF, aL_same, Nat.add_left_cancel_iff, Nat.add_eq_left, Nat.left_eq_add, not_false_eq_true, Nat.reduceEqDiff, Nat.reduceAdd, J_add, J_sub, J_mul, J_neg, J_and, J_or, J_xor, J_shl, J_shr, J_div, J_i2b, J_i2l, J_l2i, J_lcm, J_max, J_min, J_nab, J_nao, rdA, rdF, rdL, wA_fold, wF_fold, wL_fold, wC_fold]
            refine ⟨(ls0 C_h88), _, (lr0_5 C_h88), ?_⟩
            refine ⟨(ls52 C_h88), _, P_h88, ?_⟩
            refine ⟨(plan_0 K_h88_0), _, (plan_13 K_h88_0), ?_⟩
            refine ⟨congrArg Prod.fst (plan_3 K_h88_0), ixs (plan_3 K_h88_0) k25 (by decide), ?_⟩
            refine ⟨(ls64 C_h88), ?_⟩
            refine m102 (h := h88) (a := 64) (p := x1) (t := (aI h88 (pl + 3) x2)) C_h88 (WorldAt_64 C_h88) (by omega) k31 ?_
            refine ⟨rfl, ?_⟩
            try simp only [aI_wAL, fI_wAL, aL_wA, aL_wF, aI_wA_ne, aI_wF_ne, fI_wA_ne, fI_wF_ne, fI_wF_nk, aL_wAL_ne, J_sameA, J_sameF, aL_same, Nat.add_left_cancel_iff, Nat.add_eq_left, Nat.left_eq_add, not_false_eq_true, Nat.reduceEqDiff, Nat.reduceAdd, J_add, J_sub, J_mul, J_neg, J_and, J_or, J_xor, J_shl, J_shr, J_div, J_i2b, J_i2l, J_l2i, J_lcm, J_max, J_min, J_nab, J_nao, rdA, rdF, rdL, wA_fold, wF_fold, wL_fold, wC_fold]
            refine ⟨fun _ => ?_, fun c => absurd (by decide) c⟩
            exact ⟨(Or.inr (by trivial)), w⟩
        · have t36 : ¬ aI h 65 x1 = aI h (pl + 2) x2 := (fun e => c35 ((Jeq (rg_toInt _) (rg_toInt _)).mpr e))
          replace w := w.2 t36
          exact ⟨(Or.inl (by trivial)), w⟩
      · have t27 : ¬ (x2 < S 1 ∧ opn S ((bI (nightP S)) = 1) x2) := ((bI0 _).mp (Classical.byContradiction fun n => c26 n))
        replace w := w.2 t27
        exact ⟨(Or.inl (by trivial)), w⟩
theorem m107 {X : Cst} {d : Nat} {pl : Nat} {p x q u : Int} {V : Int → Int → Int} {S : Int → Int} {h : AH} {Q : Post} (C : Lay h) (P : hR h 52 0 = some pl) (K : PlanAt h pl) (hd : 4 ≤ d) (R : CS h pl S) (W : WF 999 S) (B : CP h u V) (g1 : -2147483648 ≤ p ∧ p < 2147483648) (g2 : -2147483648 ≤ x ∧ x < 2147483648) (g3 : -2147483648 ≤ q ∧ q < 2147483648)
    (k0 : ¬ sndP S p x q → Q (some (.int (J 0))) h)
    (k : sndP S p x q → ∀ h', Fr TAc h h' → CP h' (pshU u) (pshV u V S) → WorldRep h' 64 (sndS S p x q) → Q (some (.int (J 1))) h') : Ex X PG d 107 0 [some (.ref 0), some (.int (J p)), some (.int (J x)), some (.int (J q)), none, none] [] h Q := by
  obtain ⟨d, rfl⟩ : ∃ e, d = e + 1 := ⟨d - 1, by omega⟩
  have b := W.1
  unfold WFb at b
  have bn := bI_or (nightP S)
  have bo : (x < S 1 ∧ opn S (bI (nightP S) = 1) x) ↔ (x < S 1 ∧ opn S (nightP S) x) := by rw [bI_1]
  have PR := R.2.1
  have WR := R.2.2.1
  unfold sndP at k0 k
  refine r107_0 (S := S) (u := u) (V := V) C K P (by omega) ⟨R, g1, fun c => k0 (fun z => c z.1), fun c => ⟨g2, fun c2 => k0 (fun z => c2 z.2.1), fun c2 => ⟨W, PR, by omega, by omega, fun c3 => ⟨by omega, ?_⟩, fun c3 => k0 (fun z => c3 (bo.mpr ⟨c2.2, z.2.2.1⟩))⟩⟩⟩
  have c3 := (bo.mp c3).2
  have dd := W.2.2.2.1 x c2.1 c2.2
  have pp := W.2.1 p c.1 c.2
  rw [show aI h 65 p = pS S p 0 from (WR.1 p c.1 c.2).1, (PR.2.2.2.1 x c2.1 c2.2).1, (PR.2.2.2.1 x c2.1 c2.2).2]
  refine ⟨fun c4 => ⟨g3, fun c5 => ⟨fun c6 => k0 (fun z => by rcases z.2.2.2.2 with z | z; exact c5 z; exact c6 z.1), fun c6 => ⟨fun c7 => k0 (fun z => by rcases z.2.2.2.2 with z | z; exact c5 z; exact z.2.1 c7), fun c7 => ⟨by omega, ?_⟩⟩⟩, fun c5 => ⟨WR, B, fun h88 s88 p88 => ?_⟩⟩, fun c4 => k0 (fun z => c4 z.2.2.2.1)⟩
  · rw [show aI h 65 q = pS S q 0 from (WR.1 q c6.1 c6.2).1]
    refine ⟨fun c8 => ⟨WR, B, fun h72 s72 p72 => ?_⟩, fun c8 => k0 (fun z => by rcases z.2.2.2.2 with z | z; exact c5 z; exact c8 z.2.2)⟩
    have pq := W.2.1 q c6.1 c6.2
    have W2 : WorldRep h72 64 S := WR.fr p72.1 (fun c k z => by omega)
    have P2 : PlanRep h72 pl S := PR.fr p72.1 (fun c k z => by have := R.1; omega)
    rw [aI_wA_ne (by have := R.1; omega), aI_wA_ne (by have := R.1; omega), (P2.2.2.2.1 x c2.1 c2.2).1, (P2.2.2.2.1 x c2.1 c2.2).2, (W2.1 p c.1 c.2).2.2.2.1, (W2.1 q c6.1 c6.2).2.2.1]
    have F : Fr (fun c k => 65 ≤ c ∧ c ≤ 69) h72 (wA (wA (wA (wA (wA h72 (64 + 1) p (fr S x)) (64 + 4) p (pS S p 4 + 1)) (64 + 1) q (nr S x)) (64 + 3) q (pS S q 3 + 1)) (64 + 5) q p) := ((((((Fr.rf (T := fun c k => 65 ≤ c ∧ c ≤ 69)).wA (by decide)).wA (by decide)).wA (by decide)).wA (by decide)).wA (by decide))
    refine k ⟨c, c2, c3, c4, Or.inr ⟨c6, c7, c8⟩⟩ _ ((p72.1.mo fun c k z => by unfold TAc; omega).tr (F.mo fun c k z => by unfold TAc; omega)) (p72.2.fr F (fun c k z => by omega)) ?_
    unfold sndS
    rw [if_neg c5]
    have b2 : ∀ (U : Int → Int) (y w v : Int), (0 ≤ y ∧ y < 4) → (0 ≤ w ∧ w < 6) → uu_ U (10 + 6 * y + w) v 2 = U 2 := fun U y w v hy hw => uu_ne (by omega) (by omega) (by omega)
    have r1 := W2.up (p := p) (w := 0) (v := fr S x) (i := 1) (by omega) c (by omega) (by omega)
    have r2 := r1.up (p := p) (w := 4) (v := pS S p 4 + 1) (i := 4) (by rw [b2 _ _ _ _ (by omega) (by omega)]; omega) (by rw [b2 _ _ _ _ (by omega) (by omega)]; exact c) (by omega) (by omega)
    have r3 := r2.up (p := q) (w := 0) (v := nr S x) (i := 1) (by rw [b2 _ _ _ _ (by omega) (by omega), b2 _ _ _ _ (by omega) (by omega)]; omega) (by rw [b2 _ _ _ _ (by omega) (by omega), b2 _ _ _ _ (by omega) (by omega)]; exact c6) (by omega) (by omega)
    have r4 := r3.up (p := q) (w := 3) (v := pS S q 3 + 1) (i := 3) (by rw [b2 _ _ _ _ (by omega) (by omega), b2 _ _ _ _ (by omega) (by omega), b2 _ _ _ _ (by omega) (by omega)]; omega) (by rw [b2 _ _ _ _ (by omega) (by omega), b2 _ _ _ _ (by omega) (by omega), b2 _ _ _ _ (by omega) (by omega)]; exact c6) (by omega) (by omega)
    exact r4.up (p := q) (w := 5) (v := p) (i := 5) (by rw [b2 _ _ _ _ (by omega) (by omega), b2 _ _ _ _ (by omega) (by omega), b2 _ _ _ _ (by omega) (by omega), b2 _ _ _ _ (by omega) (by omega)]; omega) (by rw [b2 _ _ _ _ (by omega) (by omega), b2 _ _ _ _ (by omega) (by omega), b2 _ _ _ _ (by omega) (by omega), b2 _ _ _ _ (by omega) (by omega)]; exact c6) (by omega) g1
  · have W2 : WorldRep h88 64 S := WR.fr p88.1 (fun c k z => by omega)
    have P2 : PlanRep h88 pl S := PR.fr p88.1 (fun c k z => by have := R.1; omega)
    rw [(P2.2.2.2.1 x c2.1 c2.2).2, (W2.1 p c.1 c.2).2.2.2.1]
    have F : Fr (fun c k => 65 ≤ c ∧ c ≤ 69) h88 (wA (wA h88 (64 + 1) p (fr S x)) (64 + 4) p (pS S p 4 + 1)) := ((Fr.rf (T := fun c k => 65 ≤ c ∧ c ≤ 69)).wA (by decide)).wA (by decide)
    refine k ⟨c, c2, c3, c4, Or.inl c5⟩ _ ((p88.1.mo fun c k z => by unfold TAc; omega).tr (F.mo fun c k z => by unfold TAc; omega)) (p88.2.fr F (fun c k z => by omega)) ?_
    unfold sndS
    rw [if_pos c5]
    have b2 : ∀ (U : Int → Int) (y w v : Int), (0 ≤ y ∧ y < 4) → (0 ≤ w ∧ w < 6) → uu_ U (10 + 6 * y + w) v 2 = U 2 := fun U y w v hy hw => uu_ne (by omega) (by omega) (by omega)
    have r1 := W2.up (p := p) (w := 0) (v := fr S x) (i := 1) (by omega) c (by omega) (by omega)
    exact r1.up (p := p) (w := 4) (v := pS S p 4 + 1) (i := 4) (by rw [b2 _ _ _ _ (by omega) (by omega)]; omega) (by rw [b2 _ _ _ _ (by omega) (by omega)]; exact c) (by omega) (by omega)
