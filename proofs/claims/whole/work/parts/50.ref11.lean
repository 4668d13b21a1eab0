/-! THE REFERENCE: moments one behind the other. -/
noncomputable def mo1 (f : Int) (Rs : Int → Ru) (S : Int → Int) : Int → Int := mom S (wdo S f Rs)
noncomputable def momI (f : Int) (Rs : Int → Ru) : Nat → (Int → Int) → (Int → Int)
  | 0, S => S
  | n + 1, S => mo1 f Rs (momI f Rs n S)
theorem mo1_WF {N : Int} {f : Int} {Rs : Int → Ru} {S : Int → Int} (W : WF N S) : WF (N + 1) (mo1 f Rs S) := mom_WF W (fun p _ _ => wdoN_b W _ p)
theorem momI_WF {N : Int} {f : Int} {Rs : Int → Ru} {S : Int → Int} (W : WF N S) : ∀ n : Nat, WF (N + n) (momI f Rs n S) := by
  intro n
  induction n with
  | zero => exact W.up (by omega)
  | succ n ih => exact (mo1_WF ih).up (by omega)
theorem mo1_k {N : Int} {f : Int} {Rs : Int → Ru} {S : Int → Int} (W : WF N S) {k : Int} (h : (k < 10 ∧ 0 ≤ k ∧ ¬ k = 3) ∨ (34 ≤ k ∧ k < 2147483648)) : mo1 f Rs S k = S k := by
  have b := W.1
  unfold WFb at b
  exact mom_k (by omega) (by omega) (by omega)
theorem momI_k {N : Int} {f : Int} {Rs : Int → Ru} {S : Int → Int} (W : WF N S) {k : Int} (h : (k < 10 ∧ 0 ≤ k ∧ ¬ k = 3) ∨ (34 ≤ k ∧ k < 2147483648)) : ∀ n : Nat, momI f Rs n S k = S k := by
  intro n
  induction n with
  | zero => rfl
  | succ n ih => show mo1 f Rs (momI f Rs n S) k = S k; rw [mo1_k (momI_WF W n) h, ih]
theorem Tn_mo1 {f : Int} {Rs : Int → Ru} {S : Int → Int} (h : Tn S) : Tn (mo1 f Rs S) := by unfold mo1 mom; exact Tn_lay6 h
theorem Tn_momI {f : Int} {Rs : Int → Ru} {S : Int → Int} (h : Tn S) : ∀ n : Nat, Tn (momI f Rs n S) := by
  intro n
  induction n with
  | zero => exact h
  | succ n ih => exact Tn_mo1 ih
/-- what was kept is laid back -/
theorem back34 {S U V : Int → Int} (hS : Tn S) (hU : Tn U) (h : ∀ k, 34 ≤ k → k < 2147483648 → U k = S k) : mix 34 (mix 34 S V) U = S := by
  funext k
  unfold mix
  by_cases c : tn k < 34
  · rw [if_pos c, if_pos c]
  · rw [if_neg c, hU k, hS k]
    have := tn_b k
    exact h _ (by omega) (by omega)
def TRs (c k : Nat) : Prop := TR c k ∨ c = 266
theorem m233f {X : Cst} {d : Nat} {f : Int} {Rs : Int → Ru} {h : AH} {Q : Post} (C : Lay h) (hd : 10 ≤ d) (W : WF 999 (aI h 266)) (ef : fI h 256 21 = f) (RO : RefOK h f Rs)
    (k : ∀ h', Fr TP h h' → aI h' 266 = mo1 f Rs (aI h 266) → Q (some (.int (J (momN (aI h 266) (wdo (aI h 266) f Rs))))) h') : Ex X PG d 233 0 [some (.ref 256), none, none, none] [] h Q := by
  subst ef
  exact m233 C hd W RO k
theorem momN_rg {N : Int} {S D : Int → Int} (W : WF N S) : -2147483648 ≤ momN S D ∧ momN S D < 2147483648 := by
  have b := W.1
  unfold WFb at b
  have x := cnt_b (gO S D) (i := S 2) (by omega)
  have y := cnt_b (cmI S D) (i := S 2) (by omega)
  unfold momN; omega
-- OutwardDoorsModel.ahead(II)I at 0
set_option maxRecDepth 20000 in
set_option maxHeartbeats 4000000 in
theorem r250_0 {X : Cst} {d : Nat} {x1 : Int} {x2 : Int} {h : AH} {Q : Post} (C_h : Lay h) (hd : 1 ≤ d)
  (w : (-2147483648 ≤ x1 ∧ x1 < 2147483648) ∧ ((¬ (0 ≤ x1 ∧ x1 < aI h 266 2) → Q (some (.int (J (-1)))) h) ∧ ((0 ≤ x1 ∧ x1 < aI h 266 2) → (-2147483648 ≤ x2 ∧ x2 < 2147483648) ∧ (((0 ≤ x2 ∧ x2 ≤ 100) → (∀ h14, SH h h14 → (Fr (fun c _ => c = 271) h h14 ∧ aI h14 271 = mix 34 (aI h 266) (aI h 271)) → Ex X PG (d + 1) 250 28 [some (.ref 256), some (.int (J x1)), some (.int (J x2)), some (.int (J 0))] [] h14 Q)) ∧ (¬ (0 ≤ x2 ∧ x2 ≤ 100) → Q (some (.int (J (-1)))) h))))) :
    Ex X PG (d + 1) 250 0 [some (.ref 256), some (.int (J x1)), some (.int (J x2)), none] [] h Q := by
  refine wpx_ok (cut := [28]) 14 d 250 0 _ _ _ _ ?_
  show hs h 256 = (0, 11) ∧ Ex X PG d 213 0 [some (.ref 256), some (.int (J x1))] [] h (fun v1 h2 => ∃ r3, v1 = some (.int r3) ∧ ((r3 = (J 0) → Q (some (.int (J (-1)))) h2) ∧ (¬ (r3 = (J 0)) → Ex X PG d 186 0 [some (.long (Int32.toInt64 (J x2))), none, some (.long (0 : Int64)), none, some (.long (100 : Int64)), none] [] h2 (fun v7 h8 => ∃ r9, v7 = some (.int r9) ∧ ((¬ r9 = (J 0) → hs h8 256 = (0, 11) ∧ Ex X PG d 251 0 [some (.ref 256), none] [] h8 (fun v13 h14 => v13 = none ∧ Ex X PG (d + 1) 250 28 [some (.ref 256), some (.int (J x1)), some (.int (J x2)), some (.int (J 0))] [] h14 Q)) ∧ (¬ (¬ r9 = (J 0)) → Q (some (.int (J (-1)))) h8))))))
  try simp only [aI_wAL, fI_wAL, aL_wA, aL_wF, aI_wA_ne, aI_wF_ne, fI_wA_ne, fI_wF_ne, fI_wF_nk, aL_wAL_ne, J_sameA, J_sameF, aL_same, Nat.add_left_cancel_iff, Nat.add_eq_left, Nat.left_eq_add, not_false_eq_true, Nat.reduceEqDiff, Nat.reduceAdd, J_add, J_sub, J_mul, J_neg, J_and, J_or, J_xor, J_shl, J_shr, J_div, J_i2b, J_i2l, J_l2i, J_lcm, J_max, J_min, J_nab, J_nao, rdA, rdF, rdL, wA_fold, wF_fold, wL_fold, wC_fold]
  refine ⟨(ls256 C_h), ?_⟩
  obtain ⟨k4, w⟩ := w
  refine m213 (h := h) (x := x1) C_h (by omega) k4 ?_
  refine ⟨_, rfl, ?_⟩
  try simp only [aI_wAL, fI_wAL, aL_wA, aL_wF, aI_wA_ne, aI_wF_ne, fI_wA_ne, fI_wF_ne, fI_wF_nk, aL_wAL_ne, J_sameA, J_sameF, aL_same, Nat.add_left_cancel_iff, Nat.add_eq_left, Nat.left_eq_add, not_false_eq_true, Nat.reduceEqDiff, Nat.reduceAdd, J_add, J_sub, J_mul, J_neg, J_and, J_or, J_xor, J_shl, J_shr, J_div, J_i2b, J_i2l, J_l2i, J_lcm, J_max, J_min, J_nab, J_nao, rdA, rdF, rdL, wA_fold, wF_fold, wL_fold, wC_fold]
  refine ⟨fun c5 => ?_, fun c5 => ?_⟩
  · have t6 : ¬ (0 ≤ x1 ∧ x1 < aI h 266 2) := ((bI0 _).mp c5)
    replace w := w.1 t6
    exact w
  · have t6 : (0 ≤ x1 ∧ x1 < aI h 266 2) := (Classical.byContradiction fun n => c5 ((bI0 _).mpr n))
    replace w := w.2 t6
    obtain ⟨k10, w⟩ := w
    refine m186 (h := h) (v := x2) (lo := 0) (hi := 100) C_h (by omega) k10 (by decide) (by decide) ?_
    refine ⟨_, rfl, ?_⟩
    try simp only [aI_wAL, fI_wAL, aL_wA, aL_wF, aI_wA_ne, aI_wF_ne, fI_wA_ne, fI_wF_ne, fI_wF_nk, aL_wAL_ne, J_sameA, J_sameF, aL_same, Nat.add_left_cancel_iff, Nat.add_eq_left, Nat.left_eq_add, not_false_eq_true, Nat.reduceEqDiff, Nat.reduceAdd, J_add, J_sub, J_mul, J_neg, J_and, J_or, J_xor, J_shl, J_shr, J_div, J_i2b, J_i2l, J_l2i, J_lcm, J_max, J_min, J_nab, J_nao, rdA, rdF, rdL, wA_fold, wF_fold, wL_fold, wC_fold]
    refine ⟨fun c11 => ?_, fun c11 => ?_⟩
    · have t12 : (0 ≤ x2 ∧ x2 ≤ 100) := (Classical.byContradiction fun n => c11 ((bI0 _).mpr n))
      replace w := w.1 t12
      refine ⟨(ls256 C_h), ?_⟩
      refine m251 (h := h)  C_h (by omega)  ?_
      intro h14 s15 p16
      replace w := w h14 s15 p16
      refine ⟨rfl, ?_⟩
      have C_h14 := Lay_SH s15 C_h
      try simp only [aI_wAL, fI_wAL, aL_wA, aL_wF, aI_wA_ne, aI_wF_ne, fI_wA_ne, fI_wF_ne, fI_wF_nk, aL_wAL_ne, J_sameA, J_sameF, aL_same, Nat.add_left_cancel_iff, Nat.add_eq_left, Nat.left_eq_add, not_false_eq_true, Nat.reduceEqDiff, Nat.reduceAdd, J_add, J_sub, J_mul, J_neg, J_and, J_or, J_xor, J_shl, J_shr, J_div, J_i2b, J_i2l, J_l2i, J_lcm, J_max, J_min, J_nab, J_nao, rdA, rdF, rdL, wA_fold, wF_fold, wL_fold, wC_fold]
      exact w
    · have t12 : ¬ (0 ≤ x2 ∧ x2 ≤ 100) := ((bI0 _).mp (Classical.byContradiction fun n => c11 n))
      replace w := w.2 t12
      exact w
-- OutwardDoorsModel.ahead(II)I at 28
set_option maxRecDepth 20000 in
set_option maxHeartbeats 4000000 in
theorem r250_28 {X : Cst} {d : Nat} {x1 : Int} {x2 : Int} {x3 : Int} {h : AH} {Q : Post} (C_h : Lay h) (hd : 1 ≤ d)
  (w : (-2147483648 ≤ x3 ∧ x3 < 2147483648) ∧ (-2147483648 ≤ x2 ∧ x2 < 2147483648) ∧ ((x2 ≤ x3 → (0 ≤ 10 + 6 * x1 + 0 ∧ 10 + 6 * x1 + 0 < 123) ∧ (∀ h10, SH h h10 → (Fr (fun c j => c = 266 ∧ j < 34) h h10 ∧ aI h10 266 = mix 34 (aI h 271) (aI h 266)) → Q (some (.int (J (pS (aI h 266) x1 0)))) h10)) ∧ (¬ x2 ≤ x3 → Ex X PG d 233 0 [some (.ref 256), none, none, none] [] h (fun v13 h14 => ∃ r15 : Int, (-2147483648 ≤ r15 ∧ r15 < 2147483648) ∧ v13 = some (.int (J r15)) ∧ SH h h14 ∧ Ex X PG (d + 1) 250 28 [some (.ref 256), some (.int (J x1)), some (.int (J x2)), some (.int (J (x3 + 1)))] [] h14 Q)))) :
    Ex X PG (d + 1) 250 28 [some (.ref 256), some (.int (J x1)), some (.int (J x2)), some (.int (J x3))] [] h Q := by
  refine wpx_ok (cut := [28]) 12 d 250 28 _ _ _ _ ?_
  show (((J x2) ≤ (J x3) → hs h 256 = (0, 11) ∧ Ex X PG d 209 0 [some (.ref 256), some (.int (J x1)), some (.int (J 0))] [] h (fun v5 h6 => ∃ r7, v5 = some (.int r7) ∧ hs h6 256 = (0, 11) ∧ Ex X PG d 252 0 [some (.ref 256), none] [] h6 (fun v9 h10 => v9 = none ∧ Q (some (.int r7)) h10))) ∧ (¬ ((J x2) ≤ (J x3)) → hs h 256 = (0, 11) ∧ Ex X PG d 233 0 [some (.ref 256), none, none, none] [] h (fun v13 h14 => ∃ r15, v13 = some (.int r15) ∧ Ex X PG (d + 1) 250 28 [some (.ref 256), some (.int (J x1)), some (.int (J x2)), some (.int ((J x3) + (J 1)))] [] h14 Q)))
  try simp only [aI_wAL, fI_wAL, aL_wA, aL_wF, aI_wA_ne, aI_wF_ne, fI_wA_ne, fI_wF_ne, fI_wF_nk, aL_wAL_ne, J_sameA, J_sameF, aL_same, Nat.add_left_cancel_iff, Nat.add_eq_left, Nat.left_eq_add, not_false_eq_true, Nat.reduceEqDiff, Nat.reduceAdd, J_add, J_sub, J_mul, J_neg, J_and, J_or, J_xor, J_shl, J_shr, J_div, J_i2b, J_i2l, J_l2i, J_lcm, J_max, J_min, J_nab, J_nao, rdA, rdF, rdL, wA_fold, wF_fold, wL_fold, wC_fold]
  obtain ⟨k3, w⟩ := w
  obtain ⟨k4, w⟩ := w
  refine ⟨fun c1 => ?_, fun c1 => ?_⟩
  · have t2 : x2 ≤ x3 := ((Jle k4 k3).mp c1)
    replace w := w.1 t2
    refine ⟨(ls256 C_h), ?_⟩
    obtain ⟨k8, w⟩ := w
    refine m209 (h := h) (p := x1) (w := 0) C_h (by omega) k8 ?_
    refine ⟨_, rfl, ?_⟩
    try simp only [aI_wAL, fI_wAL, aL_wA, aL_wF, aI_wA_ne, aI_wF_ne, fI_wA_ne, fI_wF_ne, fI_wF_nk, aL_wAL_ne, J_sameA, J_sameF, aL_same, Nat.add_left_cancel_iff, Nat.add_eq_left, Nat.left_eq_add, not_false_eq_true, Nat.reduceEqDiff, Nat.reduceAdd, J_add, J_sub, J_mul, J_neg, J_and, J_or, J_xor, J_shl, J_shr, J_div, J_i2b, J_i2l, J_l2i, J_lcm, J_max, J_min, J_nab, J_nao, rdA, rdF, rdL, wA_fold, wF_fold, wL_fold, wC_fold]
    refine ⟨(ls256 C_h), ?_⟩
    refine m252 (h := h)  C_h (by omega)  ?_
    intro h10 s11 p12
    replace w := w h10 s11 p12
    refine ⟨rfl, ?_⟩
    have C_h10 := Lay_SH s11 C_h
    try simp only [aI_wAL, fI_wAL, aL_wA, aL_wF, aI_wA_ne, aI_wF_ne, fI_wA_ne, fI_wF_ne, fI_wF_nk, aL_wAL_ne, J_sameA, J_sameF, aL_same, Nat.add_left_cancel_iff, Nat.add_eq_left, Nat.left_eq_add, not_false_eq_true, Nat.reduceEqDiff, Nat.reduceAdd, J_add, J_sub, J_mul, J_neg, J_and, J_or, J_xor, J_shl, J_shr, J_div, J_i2b, J_i2l, J_l2i, J_lcm, J_max, J_min, J_nab, J_nao, rdA, rdF, rdL, wA_fold, wF_fold, wL_fold, wC_fold]
    exact w
  · have t2 : ¬ x2 ≤ x3 := (fun e => c1 ((Jle k4 k3).mpr e))
    replace w := w.2 t2
    refine ⟨(ls256 C_h), ?_⟩
    refine Ex.mono w (Nat.le_refl _) ?_
    rintro v13 h14 ⟨r15, gr15, rfl, s16, w⟩
    refine ⟨_, rfl, ?_⟩
    have C_h14 := Lay_SH s16 C_h
    try simp only [aI_wAL, fI_wAL, aL_wA, aL_wF, aI_wA_ne, aI_wF_ne, fI_wA_ne, fI_wF_ne, fI_wF_nk, aL_wAL_ne, J_sameA, J_sameF, aL_same, Nat.add_left_cancel_iff, Nat.add_eq_left, Nat.left_eq_add, not_false_eq_true, Nat.reduceEqDiff, Nat.reduceAdd, J_add, J_sub, J_mul, J_neg, J_and, J_or, J_xor, J_shl, J_shr, J_div, J_i2b, J_i2l, J_l2i, J_lcm, J_max, J_min, J_nab, J_nao, rdA, rdF, rdL, wA_fold, wF_fold, wL_fold, wC_fold]
    exact w
noncomputable def anAhead (f : Int) (Rs : Int → Ru) (S : Int → Int) (p n : Int) : Int := if (0 ≤ p ∧ p < S 2) ∧ (0 ≤ n ∧ n ≤ 100) then pS (momI f Rs n.toNat S) p 0 else -1
theorem m250 {X : Cst} {d : Nat} {f p n N : Int} {Rs : Int → Ru} {h : AH} {Q : Post} (C : Lay h) (hd : 11 ≤ d) (W : WF N (aI h 266)) (hN : N ≤ 800) (ef : fI h 256 21 = f) (RO : RefOK h f Rs) (g1 : -2147483648 ≤ p ∧ p < 2147483648) (g2 : -2147483648 ≤ n ∧ n < 2147483648)
    (k : ∀ h', Fr TRs h h' → aI h' 266 = aI h 266 → Q (some (.int (J (anAhead f Rs (aI h 266) p n)))) h') : Ex X PG d 250 0 [some (.ref 256), some (.int (J p)), some (.int (J n)), none] [] h Q := by
  obtain ⟨d, rfl⟩ : ∃ e, d = e + 1 := ⟨d - 1, by omega⟩
  have b := W.1
  unfold WFb at b
  unfold anAhead at k
  have fl : ∀ h', Fr (fun c k => TP c k ∨ c = 271) h h' → Fr TRs h h' := fun h' F => F.mo fun c k z => by unfold TP at z; unfold TRs TR; omega
  refine r250_0 C (by omega) ⟨g1, fun c => ?_, fun c => ⟨g2, fun c2 => ?_, fun c2 => ?_⟩⟩
  · rw [if_neg (fun z => c z.1)] at k; exact k h Fr.rf rfl
  · rw [if_pos ⟨c, c2⟩] at k
    intro h14 s14 p14
    have lp : ∀ (m : Nat) (i : Int) (h' : AH), Fr (fun c k => TP c k ∨ c = 271) h h' → n - i = m → 0 ≤ i → aI h' 271 = mix 34 (aI h 266) (aI h 271) → aI h' 266 = momI f Rs i.toNat (aI h 266) → Ex X PG (d + 1) 250 28 [some (.ref 256), some (.int (J p)), some (.int (J n)), some (.int (J i))] [] h' Q := by
      intro m
      induction m with
      | zero =>
        intro i h' F h1 h2 e1 e2
        have wi := momI_WF (f := f) (Rs := Rs) W i.toNat
        refine r250_28 (F.C C) (by omega) ⟨by omega, by omega, fun _ => ⟨by omega, fun h10 s10 p10 => ?_⟩, fun z => absurd (by omega) z⟩
        rw [e2, show i = n by omega]
        have F10 : Fr (fun c k => TP c k ∨ c = 271) h h10 := F.tr (p10.1.mo fun c k z => Or.inl (by unfold TP; omega))
        refine k h10 (fl h10 F10) ?_
        rw [p10.2, e1, e2]
        exact back34 (Tn_aI h 266) (Tn_momI (Tn_aI h 266) _) (fun k k0 k1 => momI_k W (Or.inr ⟨k0, k1⟩) _)
      | succ m ih =>
        intro i h' F h1 h2 e1 e2
        have wi := momI_WF (f := f) (Rs := Rs) W i.toNat
        refine r250_28 (F.C C) (by omega) ⟨by omega, by omega, fun z => absurd z (by omega), fun _ => ?_⟩
        refine m233f (f := f) (Rs := Rs) (F.C C) (by omega) (by rw [e2]; exact wi.up (by omega)) (by rw [F.f 256 21 (fun z => by unfold TP at z; omega)]; exact ef) (RO.fr F (fun c k z => by unfold TP at z; omega)) (fun h14 F14 e14 => ?_)
        refine ⟨_, momN_rg (by rw [e2]; exact wi), rfl, F14.1, ?_⟩
        refine ih (i + 1) h14 (F.tr (F14.mo fun c k z => Or.inl z)) (by omega) (by omega) ?_ ?_
        · rw [F14.a 271 (fun k z => by unfold TP at z; omega)]; exact e1
        · rw [e14, e2, show (i + 1).toNat = i.toNat + 1 by omega]; rfl
    exact lp n.toNat 0 h14 (p14.1.mo fun c k z => Or.inr z) (by omega) (by omega) p14.2 (by rw [p14.1.a 266 (fun _ => by decide)]; rfl)
  · rw [if_neg (fun z => c2 z.2)] at k; exact k h Fr.rf rfl
-- OutwardDoorsModel.comes(I)I at 0
set_option maxRecDepth 20000 in
set_option maxHeartbeats 4000000 in
theorem r253_0 {X : Cst} {d : Nat} {x1 : Int} {h : AH} {Q : Post} (C_h : Lay h) (hd : 1 ≤ d)
  (w : (-2147483648 ≤ x1 ∧ x1 < 2147483648) ∧ (((0 ≤ x1 ∧ x1 < aI h 266 2) → (∀ h8, SH h h8 → (Fr (fun c _ => c = 271) h h8 ∧ aI h8 271 = mix 34 (aI h 266) (aI h 271)) → Ex X PG (d + 1) 253 19 [some (.ref 256), some (.int (J x1)), some (.int (J (-2))), some (.int (J 0))] [] h8 Q)) ∧ (¬ (0 ≤ x1 ∧ x1 < aI h 266 2) → Q (some (.int (J (-1)))) h))) :
    Ex X PG (d + 1) 253 0 [some (.ref 256), some (.int (J x1)), none, none] [] h Q := by
  refine wpx_ok (cut := [19]) 10 d 253 0 _ _ _ _ ?_
  show hs h 256 = (0, 11) ∧ Ex X PG d 213 0 [some (.ref 256), some (.int (J x1))] [] h (fun v1 h2 => ∃ r3, v1 = some (.int r3) ∧ ((¬ r3 = (J 0) → hs h2 256 = (0, 11) ∧ Ex X PG d 251 0 [some (.ref 256), none] [] h2 (fun v7 h8 => v7 = none ∧ Ex X PG (d + 1) 253 19 [some (.ref 256), some (.int (J x1)), some (.int (J (-2))), some (.int (J 0))] [] h8 Q)) ∧ (¬ (¬ r3 = (J 0)) → Q (some (.int (J (-1)))) h2)))
  try simp only [aI_wAL, fI_wAL, aL_wA, aL_wF, aI_wA_ne, aI_wF_ne, fI_wA_ne, fI_wF_ne, fI_wF_nk, aL_wAL_ne, J_sameA, J_sameF, aL_same, Nat.add_left_cancel_iff, Nat.add_eq_left, Nat.left_eq_add, not_false_eq_true, Nat.reduceEqDiff, Nat.reduceAdd, J_add, J_sub, J_mul, J_neg, J_and, J_or, J_xor, J_shl, J_shr, J_div, J_i2b, J_i2l, J_l2i, J_lcm, J_max, J_min, J_nab, J_nao, rdA, rdF, rdL, wA_fold, wF_fold, wL_fold, wC_fold]
  refine ⟨(ls256 C_h), ?_⟩
  obtain ⟨k4, w⟩ := w
  refine m213 (h := h) (x := x1) C_h (by omega) k4 ?_
  refine ⟨_, rfl, ?_⟩
  try simp only [aI_wAL, fI_wAL, aL_wA, aL_wF, aI_wA_ne, aI_wF_ne, fI_wA_ne, fI_wF_ne, fI_wF_nk, aL_wAL_ne, J_sameA, J_sameF, aL_same, Nat.add_left_cancel_iff, Nat.add_eq_left, Nat.left_eq_add, not_false_eq_true, Nat.reduceEqDiff, Nat.reduceAdd, J_add, J_sub, J_mul, J_neg, J_and, J_or, J_xor, J_shl, J_shr, J_div, J_i2b, J_i2l, J_l2i, J_lcm, J_max, J_min, J_nab, J_nao, rdA, rdF, rdL, wA_fold, wF_fold, wL_fold, wC_fold]
  refine ⟨fun c5 => ?_, fun c5 => ?_⟩
  · have t6 : (0 ≤ x1 ∧ x1 < aI h 266 2) := (Classical.byContradiction fun n => c5 ((bI0 _).mpr n))
    replace w := w.1 t6
    refine ⟨(ls256 C_h), ?_⟩
    refine m251 (h := h)  C_h (by omega)  ?_
    intro h8 s9 p10
    replace w := w h8 s9 p10
    refine ⟨rfl, ?_⟩
    have C_h8 := Lay_SH s9 C_h
    try simp only [aI_wAL, fI_wAL, aL_wA, aL_wF, aI_wA_ne, aI_wF_ne, fI_wA_ne, fI_wF_ne, fI_wF_nk, aL_wAL_ne, J_sameA, J_sameF, aL_same, Nat.add_left_cancel_iff, Nat.add_eq_left, Nat.left_eq_add, not_false_eq_true, Nat.reduceEqDiff, Nat.reduceAdd, J_add, J_sub, J_mul, J_neg, J_and, J_or, J_xor, J_shl, J_shr, J_div, J_i2b, J_i2l, J_l2i, J_lcm, J_max, J_min, J_nab, J_nao, rdA, rdF, rdL, wA_fold, wF_fold, wL_fold, wC_fold]
    exact w
  · have t6 : ¬ (0 ≤ x1 ∧ x1 < aI h 266 2) := ((bI0 _).mp (Classical.byContradiction fun n => c5 n))
    replace w := w.2 t6
    exact w
-- OutwardDoorsModel.comes(I)I at 19
set_option maxRecDepth 20000 in
set_option maxHeartbeats 4000000 in
theorem r253_19 {X : Cst} {d : Nat} {x1 : Int} {x2 : Int} {x3 : Int} {h : AH} {Q : Post} (C_h : Lay h) (hd : 1 ≤ d)
  (w : (-2147483648 ≤ x3 ∧ x3 < 2147483648) ∧ ((200 < x3 → (∀ h5, SH h h5 → (Fr (fun c j => c = 266 ∧ j < 34) h h5 ∧ aI h5 266 = mix 34 (aI h 271) (aI h 266)) → Q (some (.int (J x2))) h5)) ∧ (¬ 200 < x3 → (-2147483648 ≤ x2 ∧ x2 < 2147483648) ∧ ((0 ≤ x2 → (∀ h12, SH h h12 → (Fr (fun c j => c = 266 ∧ j < 34) h h12 ∧ aI h12 266 = mix 34 (aI h 271) (aI h 266)) → Q (some (.int (J x2))) h12)) ∧ (¬ 0 ≤ x2 → (0 ≤ 10 + 6 * x1 + 0 ∧ 10 + 6 * x1 + 0 < 123) ∧ (0 ≤ 10 + 6 * x1 + 1 ∧ 10 + 6 * x1 + 1 < 123) ∧ ((¬ pS (aI h 266) x1 0 = pS (aI h 266) x1 1 → Ex X PG d 233 0 [some (.ref 256), none, none, none] [] h (fun v25 h26 => ∃ r27 : Int, (-2147483648 ≤ r27 ∧ r27 < 2147483648) ∧ v25 = some (.int (J r27)) ∧ SH h h26 ∧ Ex X PG (d + 1) 253 19 [some (.ref 256), some (.int (J x1)), some (.int (J x2)), some (.int (J (x3 + 1)))] [] h26 Q)) ∧ (pS (aI h 266) x1 0 = pS (aI h 266) x1 1 → Ex X PG d 233 0 [some (.ref 256), none, none, none] [] h (fun v30 h31 => ∃ r32 : Int, (-2147483648 ≤ r32 ∧ r32 < 2147483648) ∧ v30 = some (.int (J r32)) ∧ SH h h31 ∧ Ex X PG (d + 1) 253 19 [some (.ref 256), some (.int (J x1)), some (.int (J (aI h 266 3))), some (.int (J (x3 + 1)))] [] h31 Q)))))))) :
    Ex X PG (d + 1) 253 19 [some (.ref 256), some (.int (J x1)), some (.int (J x2)), some (.int (J x3))] [] h Q := by
  refine wpx_ok (cut := [19]) 24 d 253 19 _ _ _ _ ?_
  show (((J 200) < (J x3) → hs h 256 = (0, 11) ∧ Ex X PG d 252 0 [some (.ref 256), none] [] h (fun v4 h5 => v4 = none ∧ Q (some (.int (J x2))) h5)) ∧ (¬ ((J 200) < (J x3)) → (((J 0) ≤ (J x2) → hs h 256 = (0, 11) ∧ Ex X PG d 252 0 [some (.ref 256), none] [] h (fun v11 h12 => v11 = none ∧ Q (some (.int (J x2))) h12)) ∧ (¬ ((J 0) ≤ (J x2)) → hs h 256 = (0, 11) ∧ Ex X PG d 209 0 [some (.ref 256), some (.int (J x1)), some (.int (J 0))] [] h (fun v15 h16 => ∃ r17, v15 = some (.int r17) ∧ hs h16 256 = (0, 11) ∧ Ex X PG d 209 0 [some (.ref 256), some (.int (J x1)), some (.int (J 1))] [] h16 (fun v19 h20 => ∃ r21, v19 = some (.int r21) ∧ ((¬ r17 = r21 → hs h20 256 = (0, 11) ∧ Ex X PG d 233 0 [some (.ref 256), none, none, none] [] h20 (fun v25 h26 => ∃ r27, v25 = some (.int r27) ∧ Ex X PG (d + 1) 253 19 [some (.ref 256), some (.int (J x1)), some (.int (J x2)), some (.int ((J x3) + (J 1)))] [] h26 Q)) ∧ (¬ (¬ r17 = r21) → hs h20 256 = (0, 11) ∧ ∃ q29, hR h20 256 20 = some q29 ∧ (hs h20 q29).1 = 1 ∧ ix (J 3) (hs h20 q29).2 ∧ hs h20 256 = (0, 11) ∧ Ex X PG d 233 0 [some (.ref 256), none, none, none] [] h20 (fun v30 h31 => ∃ r32, v30 = some (.int r32) ∧ Ex X PG (d + 1) 253 19 [some (.ref 256), some (.int (J x1)), some (.int (hI h20 q29 (Int32.toNatClampNeg (J 3)))), some (.int ((J x3) + (J 1)))] [] h31 Q)))))))))
  try simp only [aI_wAL, fI_wAL, aL_wA, aL_wF, aI_wA_ne, aI_wF_ne, fI_wA_ne, fI_wF_ne, fI_wF_nk, aL_wAL_ne, J_sameA, J_sameF, aL_same, Nat.add_left_cancel_iff, Nat.add_eq_left, Nat.left_eq_add, not_false_eq_true, Nat.reduceEqDiff, Nat.reduceAdd, J_add, J_sub, J_mul, J_neg, J_and, J_or, J_xor, J_shl, J_shr, J_div, J_i2b, J_i2l, J_l2i, J_lcm, J_max, J_min, J_nab, J_nao, rdA, rdF, rdL, wA_fold, wF_fold, wL_fold, wC_fold]
  obtain ⟨k3, w⟩ := w
  refine ⟨fun c1 => ?_, fun c1 => ?_⟩
  · have t2 : 200 < x3 := ((Jlt (by decide) k3).mp c1)
    replace w := w.1 t2
    refine ⟨(ls256 C_h), ?_⟩
    refine m252 (h := h)  C_h (by omega)  ?_
    intro h5 s6 p7
    replace w := w h5 s6 p7
    refine ⟨rfl, ?_⟩
    have C_h5 := Lay_SH s6 C_h
    try simp only [aI_wAL, fI_wAL, aL_wA, aL_wF, aI_wA_ne, aI_wF_ne, fI_wA_ne, fI_wF_ne, fI_wF_nk, aL_wAL_ne, J_sameA, J_sameF, aL_same, Nat.add_left_cancel_iff, Nat.add_eq_left, Nat.left_eq_add, not_false_eq_true, Nat.reduceEqDiff, Nat.reduceAdd, J_add, J_sub, J_mul, J_neg, J_and, J_or, J_xor, J_shl, J_shr, J_div, J_i2b, J_i2l, J_l2i, J_lcm, J_max, J_min, J_nab, J_nao, rdA, rdF, rdL, wA_fold, wF_fold, wL_fold, wC_fold]
    exact w
  · have t2 : ¬ 200 < x3 := (fun e => c1 ((Jlt (by decide) k3).mpr e))
    replace w := w.2 t2
    obtain ⟨k10, w⟩ := w
    refine ⟨fun c8 => ?_, fun c8 => ?_⟩
    · have t9 : 0 ≤ x2 := ((Jle (by decide) k10).mp c8)
      replace w := w.1 t9
      refine ⟨(ls256 C_h), ?_⟩
      refine m252 (h := h)  C_h (by omega)  ?_
      intro h12 s13 p14
      replace w := w h12 s13 p14
      refine ⟨rfl, ?_⟩
      have C_h12 := Lay_SH s13 C_h
      try simp only [aI_wAL, fI_wAL, aL_wA, aL_wF, aI_wA_ne, aI_wF_ne, fI_wA_ne, fI_wF_ne, fI_wF_nk, aL_wAL_ne, J_sameA, J_sameF, aL_same, Nat.add_left_cancel_iff, Nat.add_eq_left, Nat.left_eq_add, not_false_eq_true, Nat.reduceEqDiff, Nat.reduceAdd, J_add, J_sub, J_mul, J_neg, J_and, J_or, J_xor, J_shl, J_shr, J_div, J_i2b, J_i2l, J_l2i, J_lcm, J_max, J_min, J_nab, J_nao, rdA, rdF, rdL, wA_fold, wF_fold, wL_fold, wC_fold]
      exact w
    · have t9 : ¬ 0 ≤ x2 := (fun e => c8 ((Jle (by decide) k10).mpr e))
      replace w := w.2 t9
      refine ⟨(ls256 C_h), ?_⟩
      obtain ⟨k18, w⟩ := w
      refine m209 (h := h) (p := x1) (w := 0) C_h (by omega) k18 ?_
      refine ⟨_, rfl, ?_⟩
      try simp only [aI_wAL, fI_wAL, aL_wA, aL_wF, aI_wA_ne, aI_wF_ne, fI_wA_ne, fI_wF_ne, fI_wF_nk, aL_wAL_ne, J_sameA, J_sameF, aL_same, Nat.add_left_cancel_iff, Nat.add_eq_left, Nat.left_eq_add, not_false_eq_true, Nat.reduceEqDiff, Nat.reduceAdd, J_add, J_sub, J_mul, J_neg, J_and, J_or, J_xor, J_shl, J_shr, J_div, J_i2b, J_i2l, J_l2i, J_lcm, J_max, J_min, J_nab, J_nao, rdA, rdF, rdL, wA_fold, wF_fold, wL_fold, wC_fold]
      refine ⟨(ls256 C_h), ?_⟩
      obtain ⟨k22, w⟩ := w
      refine m209 (h := h) (p := x1) (w := 1) C_h (by omega) k22 ?_
      refine ⟨_, rfl, ?_⟩
      try simp only [aI_wAL, fI_wAL, aL_wA, aL_wF, aI_wA_ne, aI_wF_ne, fI_wA_ne, fI_wF_ne, fI_wF_nk, aL_wAL_ne, J_sameA, J_sameF, aL_same, Nat.add_left_cancel_iff, Nat.add_eq_left, Nat.left_eq_add, not_false_eq_true, Nat.reduceEqDiff, Nat.reduceAdd, J_add, J_sub, J_mul, J_neg, J_and, J_or, J_xor, J_shl, J_shr, J_div, J_i2b, J_i2l, J_l2i, J_lcm, J_max, J_min, J_nab, J_nao, rdA, rdF, rdL, wA_fold, wF_fold, wL_fold, wC_fold]
      refine ⟨fun c23 => ?_, fun c23 => ?_⟩
      · have t24 : ¬ pS (aI h 266) x1 0 = pS (aI h 266) x1 1 := (fun e => c23 ((Jeq (aI_rg _ _ _) (aI_rg _ _ _)).mpr e))
        replace w := w.1 t24
        refine ⟨(ls256 C_h), ?_⟩
        refine Ex.mono w (Nat.le_refl _) ?_
        rintro v25 h26 ⟨r27, gr27, rfl, s28, w⟩
        refine ⟨_, rfl, ?_⟩
        have C_h26 := Lay_SH s28 C_h
        try simp only [aI_wAL, fI_wAL, aL_wA, aL_wF, aI_wA_ne, aI_wF_ne, fI_wA_ne, fI_wF_ne, fI_wF_nk, aL_wAL_ne, J_sameA, J_sameF, aL_same, Nat.add_left_cancel_iff, Nat.add_eq_left, Nat.left_eq_add, not_false_eq_true, Nat.reduceEqDiff, Nat.reduceAdd, J_add, J_sub, J_mul, J_neg, J_and, J_or, J_xor, J_shl, J_shr, J_div, J_i2b, J_i2l, J_l2i, J_lcm, J_max, J_min, J_nab, J_nao, rdA, rdF, rdL, wA_fold, wF_fold, wL_fold, wC_fold]
        exact w
      · have t24 : pS (aI h 266) x1 0 = pS (aI h 266) x1 1 := ((Jeq (aI_rg _ _ _) (aI_rg _ _ _)).mp (Classical.byContradiction c23))
        replace w := w.2 t24
        refine ⟨(ls256 C_h), _, (lr256_20 C_h), ?_⟩
        refine ⟨congrArg Prod.fst (ls266 C_h), ixs (ls266 C_h) (by decide) (by decide), ?_⟩
        refine ⟨(ls256 C_h), ?_⟩
        refine Ex.mono w (Nat.le_refl _) ?_
        rintro v30 h31 ⟨r32, gr32, rfl, s33, w⟩
        refine ⟨_, rfl, ?_⟩
        have C_h31 := Lay_SH s33 C_h
        try simp only [aI_wAL, fI_wAL, aL_wA, aL_wF, aI_wA_ne, aI_wF_ne, fI_wA_ne, fI_wF_ne, fI_wF_nk, aL_wAL_ne, J_sameA, J_sameF, aL_same, Nat.add_left_cancel_iff, Nat.add_eq_left, Nat.left_eq_add, not_false_eq_true, Nat.reduceEqDiff, Nat.reduceAdd, J_add, J_sub, J_mul, J_neg, J_and, J_or, J_xor, J_shl, J_shr, J_div, J_i2b, J_i2l, J_l2i, J_lcm, J_max, J_min, J_nab, J_nao, rdA, rdF, rdL, wA_fold, wF_fold, wL_fold, wC_fold]
        exact w
/-- COMES: n MOMENTS more are looked at -/
noncomputable def cmR (f : Int) (Rs : Int → Ru) (p : Int) : Nat → (Int → Int) → Int
  | 0, S => if pS S p 0 = pS S p 1 then S 3 else -2
  | n + 1, S => if pS S p 0 = pS S p 1 then S 3 else cmR f Rs p n (mo1 f Rs S)
noncomputable def anComes (f : Int) (Rs : Int → Ru) (S : Int → Int) (p : Int) : Int := if 0 ≤ p ∧ p < S 2 then cmR f Rs p 200 S else -1
theorem momI_s (f : Int) (Rs : Int → Ru) (S : Int → Int) : ∀ n : Nat, momI f Rs n (mo1 f Rs S) = momI f Rs (n + 1) S := by
  intro n
  induction n with
  | zero => rfl
  | succ n ih => show mo1 f Rs (momI f Rs n (mo1 f Rs S)) = _; rw [ih]; rfl
theorem m253 {X : Cst} {d : Nat} {f p N : Int} {Rs : Int → Ru} {h : AH} {Q : Post} (C : Lay h) (hd : 11 ≤ d) (W : WF N (aI h 266)) (hN : N ≤ 700) (ef : fI h 256 21 = f) (RO : RefOK h f Rs) (g1 : -2147483648 ≤ p ∧ p < 2147483648)
    (k : ∀ h', Fr TRs h h' → aI h' 266 = aI h 266 → Q (some (.int (J (anComes f Rs (aI h 266) p)))) h') : Ex X PG d 253 0 [some (.ref 256), some (.int (J p)), none, none] [] h Q := by
  obtain ⟨d, rfl⟩ : ∃ e, d = e + 1 := ⟨d - 1, by omega⟩
  have b := W.1
  unfold WFb at b
  unfold anComes at k
  have fl : ∀ h', Fr (fun c k => TP c k ∨ c = 271) h h' → Fr TRs h h' := fun h' F => F.mo fun c k z => by unfold TP at z; unfold TRs TR; omega
  refine r253_0 C (by omega) ⟨g1, fun c => ?_, fun c => ?_⟩
  · rw [if_pos c] at k
    intro h8 s8 p8
    -- the end
    have fin : ∀ (i : Nat) (v : Int) (h' : AH), Fr (fun c k => TP c k ∨ c = 271) h h' → aI h' 271 = mix 34 (aI h 266) (aI h 271) → aI h' 266 = momI f Rs i (aI h 266) → v = cmR f Rs p 200 (aI h 266) → ∀ h5, Fr (fun c j => c = 266 ∧ j < 34) h' h5 ∧ aI h5 266 = mix 34 (aI h' 271) (aI h' 266) → Q (some (.int (J v))) h5 := by
      intro i v h' F e1 e2 ev h5 p5
      rw [ev]
      refine k h5 (fl h5 (F.tr (p5.1.mo fun c k z => Or.inl (by unfold TP; omega)))) ?_
      rw [p5.2, e1, e2]
      exact back34 (Tn_aI h 266) (Tn_momI (Tn_aI h 266) _) (fun k k0 k1 => momI_k W (Or.inr ⟨k0, k1⟩) _)
    have lp : ∀ (m : Nat) (i : Nat) (h' : AH), 200 - i = m → i ≤ 200 → Fr (fun c k => TP c k ∨ c = 271) h h' → aI h' 271 = mix 34 (aI h 266) (aI h 271) → aI h' 266 = momI f Rs i (aI h 266) → cmR f Rs p m (momI f Rs i (aI h 266)) = cmR f Rs p 200 (aI h 266) → Ex X PG (d + 1) 253 19 [some (.ref 256), some (.int (J p)), some (.int (J (-2))), some (.int (J (i : Int)))] [] h' Q := by
      intro m
      induction m with
      | zero =>
        intro i h' h1 h2 F e1 e2 ec
        have wi := momI_WF (f := f) (Rs := Rs) W i
        have w2 := (momI_k (f := f) (Rs := Rs) W (k := 2) (Or.inl (by decide)) i)
        refine r253_19 (F.C C) (by omega) ⟨by omega, fun z => absurd z (by omega), fun _ => ⟨by decide, fun z => absurd z (by decide), fun _ => ⟨by omega, by omega, fun c2 => ?_, fun c2 => ?_⟩⟩⟩
        · refine m233f (f := f) (Rs := Rs) (F.C C) (by omega) (by rw [e2]; exact wi.up (by omega)) (by rw [F.f 256 21 (fun z => by unfold TP at z; omega)]; exact ef) (RO.fr F (fun c k z => by unfold TP at z; omega)) (fun h14 F14 e14 => ?_)
          refine ⟨_, momN_rg (by rw [e2]; exact wi), rfl, F14.1, ?_⟩
          have F15 := F.tr (F14.mo fun c k z => Or.inl z : Fr (fun c k => TP c k ∨ c = 271) h' h14)
          refine r253_19 (F15.C C) (by omega) ⟨by omega, fun _ h5 s5 p5 => fin (i + 1) _ h14 F15 (by rw [F14.a 271 (fun k z => by unfold TP at z; omega)]; exact e1) (by rw [e14, e2]; rfl) ?_ h5 p5, fun z => absurd (by omega) z⟩
          rw [← ec]
          unfold cmR
          rw [e2] at c2
          rw [if_neg c2]
        · refine m233f (f := f) (Rs := Rs) (F.C C) (by omega) (by rw [e2]; exact wi.up (by omega)) (by rw [F.f 256 21 (fun z => by unfold TP at z; omega)]; exact ef) (RO.fr F (fun c k z => by unfold TP at z; omega)) (fun h14 F14 e14 => ?_)
          refine ⟨_, momN_rg (by rw [e2]; exact wi), rfl, F14.1, ?_⟩
          have F15 := F.tr (F14.mo fun c k z => Or.inl z : Fr (fun c k => TP c k ∨ c = 271) h' h14)
          refine r253_19 (F15.C C) (by omega) ⟨by omega, fun _ h5 s5 p5 => fin (i + 1) _ h14 F15 (by rw [F14.a 271 (fun k z => by unfold TP at z; omega)]; exact e1) (by rw [e14, e2]; rfl) ?_ h5 p5, fun z => absurd (by omega) z⟩
          rw [← ec]
          unfold cmR
          rw [e2] at c2
          rw [if_pos c2, e2]
      | succ m ih =>
        intro i h' h1 h2 F e1 e2 ec
        have wi := momI_WF (f := f) (Rs := Rs) W i
        have wb := wi.1
        unfold WFb at wb
        refine r253_19 (F.C C) (by omega) ⟨by omega, fun z => absurd z (by omega), fun _ => ⟨by decide, fun z => absurd z (by decide), fun _ => ⟨by omega, by omega, fun c2 => ?_, fun c2 => ?_⟩⟩⟩
        · refine m233f (f := f) (Rs := Rs) (F.C C) (by omega) (by rw [e2]; exact wi.up (by omega)) (by rw [F.f 256 21 (fun z => by unfold TP at z; omega)]; exact ef) (RO.fr F (fun c k z => by unfold TP at z; omega)) (fun h14 F14 e14 => ?_)
          refine ⟨_, momN_rg (by rw [e2]; exact wi), rfl, F14.1, ?_⟩
          have F15 := F.tr (F14.mo fun c k z => Or.inl z : Fr (fun c k => TP c k ∨ c = 271) h' h14)
          have := ih (i + 1) h14 (by omega) (by omega) F15 (by rw [F14.a 271 (fun k z => by unfold TP at z; omega)]; exact e1) (by rw [e14, e2]; rfl) ?_
          · exact this
          · rw [← ec]
            show _ = cmR f Rs p (m + 1) _
            unfold cmR
            rw [e2] at c2
            rw [if_neg c2]
            cases m <;> rfl
        · refine m233f (f := f) (Rs := Rs) (F.C C) (by omega) (by rw [e2]; exact wi.up (by omega)) (by rw [F.f 256 21 (fun z => by unfold TP at z; omega)]; exact ef) (RO.fr F (fun c k z => by unfold TP at z; omega)) (fun h14 F14 e14 => ?_)
          refine ⟨_, momN_rg (by rw [e2]; exact wi), rfl, F14.1, ?_⟩
          have F15 := F.tr (F14.mo fun c k z => Or.inl z : Fr (fun c k => TP c k ∨ c = 271) h' h14)
          have ev : aI h' 266 3 = cmR f Rs p 200 (aI h 266) := by
            rw [← ec, e2]
            show _ = cmR f Rs p (m + 1) _
            unfold cmR
            rw [e2] at c2
            rw [if_pos c2]
          have s3 : 0 ≤ aI h' 266 3 := by rw [e2]; exact wb.2.2.2.2.2.2.1
          refine r253_19 (F15.C C) (by omega) ⟨by omega, fun z => absurd z (by omega), fun _ => ⟨aI_rg _ _ _, fun _ h5 s5 p5 => fin (i + 1) _ h14 F15 (by rw [F14.a 271 (fun k z => by unfold TP at z; omega)]; exact e1) (by rw [e14, e2]; rfl) ev h5 p5, fun z => absurd s3 z⟩⟩
    exact lp 200 0 h8 rfl (by omega) (p8.1.mo fun c k z => Or.inr z) p8.2 (by rw [p8.1.a 266 (fun _ => by decide)]; rfl) rfl
  · rw [if_neg c] at k; exact k h Fr.rf rfl
