/-! THE CLASS: worlds. -/
-- java/util/Arrays.fill([II)V at 0
set_option maxRecDepth 20000 in
set_option maxHeartbeats 4000000 in
theorem r4_0 {X : Cst} {d : Nat} {c : Nat} {x1 : Int} {h : AH} {Q : Post} (C_h : Lay h) {n : Nat} (S_h : hs h c = (1, n)) (hn : n ≤ 2147483648)
  (w : Ex X PG (d + 1) 4 5 [some (.ref c), some (.int (J x1)), some (.int (J 0)), some (.int (J (n : Int)))] [] h Q) :
    Ex X PG (d + 1) 4 0 [some (.ref c), some (.int (J x1)), none, none] [] h Q := by
  refine wpx_ok (cut := [5]) 5 d 4 0 _ _ _ _ ?_
  show 1 ≤ (hs h c).1 ∧ Ex X PG (d + 1) 4 5 [some (.ref c), some (.int (J x1)), some (.int (J 0)), some (.int (nI (hs h c).2))] [] h Q
  try simp only [aI_wAL, fI_wAL, aL_wA, aL_wF, aI_wA_ne, aI_wF_ne, fI_wA_ne, fI_wF_ne, fI_wF_nk, aL_wAL_ne, J_sameA, J_sameF, aL_same, Nat.add_left_cancel_iff, Nat.add_eq_left, Nat.left_eq_add, not_false_eq_true, Nat.reduceEqDiff, Nat.reduceAdd, J_add, J_sub, J_mul, J_neg, J_and, J_or, J_xor, J_shl, J_shr, J_div, J_i2b, J_i2l, J_l2i, J_lcm, J_max, J_min, J_nab, J_nao, rdA, rdF, rdL, wA_fold, wF_fold, wL_fold, wC_fold]
  refine ⟨by rw [S_h]; show 1 ≤ 1; decide, ?_⟩
  rw [show nI (hs h c).2 = J (n : Int) from by rw [S_h]; exact J_nI _]
  try simp only [aI_wAL, fI_wAL, aL_wA, aL_wF, aI_wA_ne, aI_wF_ne, fI_wA_ne, fI_wF_ne, fI_wF_nk, aL_wAL_ne, J_sameA, J_sameF, aL_same, Nat.add_left_cancel_iff, Nat.add_eq_left, Nat.left_eq_add, not_false_eq_true, Nat.reduceEqDiff, Nat.reduceAdd, J_add, J_sub, J_mul, J_neg, J_and, J_or, J_xor, J_shl, J_shr, J_div, J_i2b, J_i2l, J_l2i, J_lcm, J_max, J_min, J_nab, J_nao, rdA, rdF, rdL, wA_fold, wF_fold, wL_fold, wC_fold]
  exact w
-- java/util/Arrays.fill([II)V at 5
set_option maxRecDepth 20000 in
set_option maxHeartbeats 4000000 in
theorem r4_5 {X : Cst} {d : Nat} {c : Nat} {x1 : Int} {x2 : Int} {x3 : Int} {h : AH} {Q : Post} (C_h : Lay h) {n : Nat} (S_h : hs h c = (1, n)) (hn : n ≤ 2147483648)
  (w : (-2147483648 ≤ x2 ∧ x2 < 2147483648) ∧ (-2147483648 ≤ x3 ∧ x3 < 2147483648) ∧ ((x3 ≤ x2 → Q none h) ∧ (¬ x3 ≤ x2 → (0 ≤ x2 ∧ x2 < n) ∧ Ex X PG (d + 1) 4 5 [some (.ref c), some (.int (J x1)), some (.int (J (x2 + 1))), some (.int (J x3))] [] (wA h c x2 x1) Q))) :
    Ex X PG (d + 1) 4 5 [some (.ref c), some (.int (J x1)), some (.int (J x2)), some (.int (J x3))] [] h Q := by
  refine wpx_ok (cut := [5]) 9 d 4 5 _ _ _ _ ?_
  show (((J x3) ≤ (J x2) → Q none h) ∧ (¬ ((J x3) ≤ (J x2)) → (hs h c).1 = 1 ∧ ix (J x2) (hs h c).2 ∧ Ex X PG (d + 1) 4 5 [some (.ref c), some (.int (J x1)), some (.int ((J x2) + (J 1))), some (.int (J x3))] [] (wI h c (Int32.toNatClampNeg (J x2)) (J x1)) Q))
  try simp only [aI_wAL, fI_wAL, aL_wA, aL_wF, aI_wA_ne, aI_wF_ne, fI_wA_ne, fI_wF_ne, fI_wF_nk, aL_wAL_ne, J_sameA, J_sameF, aL_same, Nat.add_left_cancel_iff, Nat.add_eq_left, Nat.left_eq_add, not_false_eq_true, Nat.reduceEqDiff, Nat.reduceAdd, J_add, J_sub, J_mul, J_neg, J_and, J_or, J_xor, J_shl, J_shr, J_div, J_i2b, J_i2l, J_l2i, J_lcm, J_max, J_min, J_nab, J_nao, rdA, rdF, rdL, wA_fold, wF_fold, wL_fold, wC_fold]
  obtain ⟨k3, w⟩ := w
  obtain ⟨k4, w⟩ := w
  refine ⟨fun c1 => ?_, fun c1 => ?_⟩
  · have t2 : x3 ≤ x2 := ((Jle k4 k3).mp c1)
    replace w := w.1 t2
    exact w
  · have t2 : ¬ x3 ≤ x2 := (fun e => c1 ((Jle k4 k3).mpr e))
    replace w := w.2 t2
    obtain ⟨k5, w⟩ := w
    refine ⟨congrArg Prod.fst S_h, ixs S_h k5 hn, ?_⟩
    exact w
theorem m4 {X : Cst} {d : Nat} {c n : Nat} {v : Int} {h : AH} {Q : Post} (C : Lay h) (Sh : hs h c = (1, n)) (hn : n ≤ 2147483647) (hd : 1 ≤ d) (hv : -2147483648 ≤ v ∧ v < 2147483648)
    (k : ∀ h', SH h h' → (Fr (fun c2 _ => c2 = c) h h' ∧ ∀ k, 0 ≤ k → k < (n : Int) → aI h' c k = v) → Q none h') : Ex X PG d 4 0 [some (.ref c), some (.int (J v)), none, none] [] h Q := by
  obtain ⟨d, rfl⟩ : ∃ e, d = e + 1 := ⟨d - 1, by omega⟩
  have lp : ∀ (m : Nat) (i : Int) (h' : AH), Fr (fun c2 _ => c2 = c) h h' → (n : Int) - i = m → 0 ≤ i → (∀ k, 0 ≤ k → k < i → aI h' c k = v) → Ex X PG (d + 1) 4 5 [some (.ref c), some (.int (J v)), some (.int (J i)), some (.int (J (n : Int)))] [] h' Q := by
    intro m
    induction m with
    | zero =>
      intro i h' F h1 h2 h3
      exact r4_5 (F.C C) (n := n) (by rw [F.1.hs]; exact Sh) (by omega) ⟨by omega, by omega, fun _ => k h' F.1 ⟨F, fun j a b => h3 j a (by omega)⟩, fun c => absurd (by omega) c⟩
    | succ m ih =>
      intro i h' F h1 h2 h3
      refine r4_5 (F.C C) (n := n) (by rw [F.1.hs]; exact Sh) (by omega) ⟨by omega, by omega, fun c => absurd c (by omega), fun _ => ⟨by omega, ?_⟩⟩
      refine ih (i + 1) _ (F.wA rfl) (by omega) (by omega) (fun j a b => ?_)
      rw [aI_wA hv]
      by_cases q : j = i
      · rw [q, uu_eq]
      · rw [uu_ne (by omega) (by omega) q]; exact h3 j a (by omega)
  exact r4_0 C (n := n) Sh (by omega) (lp n 0 h Fr.rf (by omega) (by omega) (fun j a b => by omega))
def WorldRep (h : AH) (a : Nat) (S : Int → Int) : Prop :=
  (∀ p, 0 ≤ p → p < S 2 → aI h (a + 1) p = pS S p 0 ∧ aI h (a + 2) p = pS S p 1 ∧ aI h (a + 3) p = pS S p 3 ∧ aI h (a + 4) p = pS S p 4 ∧ aI h (a + 5) p = pS S p 5) ∧
  (∀ p, S 2 ≤ p → p < 4 → aI h (a + 3) p = 0 ∧ aI h (a + 4) p = 0) ∧ fI h a 5 = S 3
theorem WorldRep.fr {T : Nat → Nat → Prop} {h h' : AH} {a : Nat} {S : Int → Int} (P : WorldRep h a S) (F : Fr T h h') (n : ∀ c k, T c k → c < a ∨ a + 5 < c) : WorldRep h' a S := by
  have x : ∀ i, i ≤ 5 → aI h' (a + i) = aI h (a + i) := fun i hi => F.a (a + i) (fun k z => by have := n _ _ z; omega)
  unfold WorldRep
  rw [F.f a 5 (fun z => by have := n _ _ z; omega), x 1 (by omega), x 2 (by omega), x 3 (by omega), x 4 (by omega), x 5 (by omega)]
  exact P
theorem Fr.wC {T : Nat → Nat → Prop} {h h' : AH} (x : Fr T h h') {a sp b dp n : Nat} (t : ∀ k, T b k) : Fr T h (wC h' a sp b dp n) :=
  ⟨x.1, fun i k q => ⟨by
    rw [← (x.2 i k q).1]
    by_cases e : i = b
    · subst e; exact absurd (t k) q
    · show va_up (hI h') b _ i k = _
      rw [va_up_other _ _ e], (x.2 i k q).2⟩⟩
theorem Fr.wCp {T : Nat → Nat → Prop} {h h' : AH} (x : Fr T h h') {a b : Nat} {sp dp n : Int} (t : ∀ k, T b k) : Fr T h (wCp h' a sp b dp n) := Fr.wC x t
theorem aI_wCp_ne {h : AH} {a b c : Nat} {sp dp n : Int} (e : ¬ c = b) : aI (wCp h a sp b dp n) c = aI h c := by
  funext k
  unfold aI
  show (va_up (hI h) b _ c (tn k)).toInt = _
  rw [va_up_other _ _ e]
theorem fI_wCp_ne {h : AH} {a b c : Nat} {sp dp n : Int} (e : ¬ c = b) : fI (wCp h a sp b dp n) c = fI h c := by
  funext k
  unfold fI
  show (va_up (hI h) b _ c k).toInt = _
  rw [va_up_other _ _ e]
theorem aI_wCp {h : AH} {a b : Nat} {n k : Int} (hn : 0 ≤ n ∧ n < 2147483648) (hk : 0 ≤ k ∧ k < n) : aI (wCp h a 0 b 0 n) b k = aI h a k := by
  unfold aI
  show (va_up (hI h) b (va_cpy (hI h a) (hI h b) (tn 0) (tn 0) (tn n)) b (tn k)).toInt = _
  rw [va_up_same]
  unfold va_cpy
  have t0 : tn 0 = 0 := by decide
  have tk := tn_eq (e := k) (by omega)
  have tnn := tn_eq (e := n) (by omega)
  rw [t0, if_pos (by omega)]
  simp only [Nat.zero_add, Nat.sub_zero]
/-- a world's arrays and MOMENT are those of another -/
def WCopy (h h' : AH) (a b : Nat) : Prop := (∀ p, 0 ≤ p → p < 4 → aI h' (a + 1) p = aI h (b + 1) p ∧ aI h' (a + 2) p = aI h (b + 2) p ∧ aI h' (a + 3) p = aI h (b + 3) p ∧ aI h' (a + 4) p = aI h (b + 4) p ∧ aI h' (a + 5) p = aI h (b + 5) p) ∧ fI h' a 5 = fI h b 5
theorem WCopy.rep {h h' : AH} {a b : Nat} {S : Int → Int} (x : WCopy h h' a b) (R : WorldRep h b S) (h2 : 0 ≤ S 2 ∧ S 2 ≤ 4) : WorldRep h' a S := by
  refine ⟨fun p h0 h1 => ?_, fun p h0 h1 => ?_, by rw [x.2]; exact R.2.2⟩
  · have e := x.1 p h0 (by omega)
    rw [e.1, e.2.1, e.2.2.1, e.2.2.2.1, e.2.2.2.2]
    exact R.1 p h0 h1
  · have e := x.1 p (by omega) h1
    rw [e.2.2.1, e.2.2.2.1]
    exact R.2.1 p h0 h1
-- OutwardDoors$World.copyFrom(LOutwardDoors$World;)V at 0
set_option maxRecDepth 20000 in
set_option maxHeartbeats 4000000 in
theorem r88_0 {X : Cst} {d : Nat} {a : Nat} {b : Nat} {h : AH} {Q : Post} (C_h : Lay h) (K_h_0 : WorldAt h a) (K_h_1 : WorldAt h b)
  (w : Q none (wF (wCp (wCp (wCp (wCp (wCp h (b + 1) 0 (a + 1) 0 4) (b + 2) 0 (a + 2) 0 4) (b + 3) 0 (a + 3) 0 4) (b + 4) 0 (a + 4) 0 4) (b + 5) 0 (a + 5) 0 4) a 5 (fI (wCp (wCp (wCp (wCp (wCp h (b + 1) 0 (a + 1) 0 4) (b + 2) 0 (a + 2) 0 4) (b + 3) 0 (a + 3) 0 4) (b + 4) 0 (a + 4) 0 4) (b + 5) 0 (a + 5) 0 4) b 5))) :
    Ex X PG (d + 1) 88 0 [some (.ref a), some (.ref b)] [] h Q := by
  refine wpx_ok (cut := []) 45 d 88 0 _ _ _ _ ?_
  show hs h b = (0, 9) ∧ ∃ q1, hR h b 0 = some q1 ∧ hs h a = (0, 9) ∧ ∃ q2, hR h a 0 = some q2 ∧ ((hs h q1).1 = 1 ∧ (hs h q2).1 = 1) ∧ (¬ J 0 < 0 ∧ ¬ J 0 < 0 ∧ ¬ J 4 < 0) ∧ (Int32.toNatClampNeg (J 0) + Int32.toNatClampNeg (J 4) ≤ (hs h q1).2 ∧ Int32.toNatClampNeg (J 0) + Int32.toNatClampNeg (J 4) ≤ (hs h q2).2) ∧ hs (wC h q1 (Int32.toNatClampNeg (J 0)) q2 (Int32.toNatClampNeg (J 0)) (Int32.toNatClampNeg (J 4))) b = (0, 9) ∧ ∃ q3, hR (wC h q1 (Int32.toNatClampNeg (J 0)) q2 (Int32.toNatClampNeg (J 0)) (Int32.toNatClampNeg (J 4))) b 1 = some q3 ∧ hs (wC h q1 (Int32.toNatClampNeg (J 0)) q2 (Int32.toNatClampNeg (J 0)) (Int32.toNatClampNeg (J 4))) a = (0, 9) ∧ ∃ q4, hR (wC h q1 (Int32.toNatClampNeg (J 0)) q2 (Int32.toNatClampNeg (J 0)) (Int32.toNatClampNeg (J 4))) a 1 = some q4 ∧ ((hs (wC h q1 (Int32.toNatClampNeg (J 0)) q2 (Int32.toNatClampNeg (J 0)) (Int32.toNatClampNeg (J 4))) q3).1 = 1 ∧ (hs (wC h q1 (Int32.toNatClampNeg (J 0)) q2 (Int32.toNatClampNeg (J 0)) (Int32.toNatClampNeg (J 4))) q4).1 = 1) ∧ (¬ J 0 < 0 ∧ ¬ J 0 < 0 ∧ ¬ J 4 < 0) ∧ (Int32.toNatClampNeg (J 0) + Int32.toNatClampNeg (J 4) ≤ (hs (wC h q1 (Int32.toNatClampNeg (J 0)) q2 (Int32.toNatClampNeg (J 0)) (Int32.toNatClampNeg (J 4))) q3).2 ∧ Int32.toNatClampNeg (J 0) + Int32.toNatClampNeg (J 4) ≤ (hs (wC h q1 (Int32.toNatClampNeg (J 0)) q2 (Int32.toNatClampNeg (J 0)) (Int32.toNatClampNeg (J 4))) q4).2) ∧ hs (wC (wC h q1 (Int32.toNatClampNeg (J 0)) q2 (Int32.toNatClampNeg (J 0)) (Int32.toNatClampNeg (J 4))) q3 (Int32.toNatClampNeg (J 0)) q4 (Int32.toNatClampNeg (J 0)) (Int32.toNatClampNeg (J 4))) b = (0, 9) ∧ ∃ q5, hR (wC (wC h q1 (Int32.toNatClampNeg (J 0)) q2 (Int32.toNatClampNeg (J 0)) (Int32.toNatClampNeg (J 4))) q3 (Int32.toNatClampNeg (J 0)) q4 (Int32.toNatClampNeg (J 0)) (Int32.toNatClampNeg (J 4))) b 2 = some q5 ∧ hs (wC (wC h q1 (Int32.toNatClampNeg (J 0)) q2 (Int32.toNatClampNeg (J 0)) (Int32.toNatClampNeg (J 4))) q3 (Int32.toNatClampNeg (J 0)) q4 (Int32.toNatClampNeg (J 0)) (Int32.toNatClampNeg (J 4))) a = (0, 9) ∧ ∃ q6, hR (wC (wC h q1 (Int32.toNatClampNeg (J 0)) q2 (Int32.toNatClampNeg (J 0)) (Int32.toNatClampNeg (J 4))) q3 (Int32.toNatClampNeg (J 0)) q4 (Int32.toNatClampNeg (J 0)) (Int32.toNatClampNeg (J 4))) a 2 = some q6 ∧ ((hs (wC (wC h q1 (Int32.toNatClampNeg (J 0)) q2 (Int32.toNatClampNeg (J 0)) (Int32.toNatClampNeg (J 4))) q3 (Int32.toNatClampNeg (J 0)) q4 (Int32.toNatClampNeg (J 0)) (Int32.toNatClampNeg (J 4))) q5).1 = 1 ∧ (hs (wC (wC h q1 (Int32.toNatClampNeg (J 0)) q2 (Int32.toNatClampNeg (J 0)) (Int32.toNatClampNeg (J 4))) q3 (Int32.toNatClampNeg (J 0)) q4 (Int32.toNatClampNeg (J 0)) (Int32.toNatClampNeg (J 4))) q6).1 = 1) ∧ (¬ J 0 < 0 ∧ ¬ J 0 < 0 ∧ ¬ J 4 < 0) ∧ (Int32.toNatClampNeg (J 0) + Int32.toNatClampNeg (J 4) ≤ (hs (wC (wC h q1 (Int32.toNatClampNeg (J 0)) q2 (Int32.toNatClampNeg (J 0)) (Int32.toNatClampNeg (J 4))) q3 (Int32.toNatClampNeg (J 0)) q4 (Int32.toNatClampNeg (J 0)) (Int32.toNatClampNeg (J 4))) q5).2 ∧ Int32.toNatClampNeg (J 0) + Int32.toNatClampNeg (J 4) ≤ (hs (wC (wC h q1 (Int32.toNatClampNeg (J 0)) q2 (Int32.toNatClampNeg (J 0)) (Int32.toNatClampNeg (J 4))) q3 (Int32.toNatClampNeg (J 0)) q4 (Int32.toNatClampNeg (J 0)) (Int32.toNatClampNeg (J 4))) q6).2) ∧ hs (wC (wC (wC h q1 (Int32.toNatClampNeg (J 0)) q2 (Int32.toNatClampNeg (J 0)) (Int32.toNatClampNeg (J 4))) q3 (Int32.toNatClampNeg (J 0)) q4 (Int32.toNatClampNeg (J 0)) (Int32.toNatClampNeg (J 4))) q5 (Int32.toNatClampNeg (J 0)) q6 (Int32.toNatClampNeg (J 0)) (Int32.toNatClampNeg (J 4))) b = (0, 9) ∧ ∃ q7, hR (wC (wC (wC h q1 (Int32.toNatClampNeg (J 0)) q2 (Int32.toNatClampNeg (J 0)) (Int32.toNatClampNeg (J 4))) q3 (Int32.toNatClampNeg (J 0)) q4 (Int32.toNatClampNeg (J 0)) (Int32.toNatClampNeg (J 4))) q5 (Int32.toNatClampNeg (J 0)) q6 (Int32.toNatClampNeg (J 0)) (Int32.toNatClampNeg (J 4))) b 3 = some q7 ∧ hs (wC (wC (wC h q1 (Int32.toNatClampNeg (J 0)) q2 (Int32.toNatClampNeg (J 0)) (Int32.toNatClampNeg (J 4))) q3 (Int32.toNatClampNeg (J 0)) q4 (Int32.toNatClampNeg (J 0)) (Int32.toNatClampNeg (J 4))) q5 (Int32.toNatClampNeg (J 0)) q6 (Int32.toNatClampNeg (J 0)) (Int32.toNatClampNeg (J 4))) a = (0, 9) ∧ ∃ q8, hR (wC (wC (wC h q1 (Int32.toNatClampNeg (J 0)) q2 (Int32.toNatClampNeg (J 0)) (Int32.toNatClampNeg (J 4))) q3 (Int32.toNatClampNeg (J 0)) q4 (Int32.toNatClampNeg (J 0)) (Int32.toNatClampNeg (J 4))) q5 (Int32.toNatClampNeg (J 0)) q6 (Int32.toNatClampNeg (J 0)) (Int32.toNatClampNeg (J 4))) a 3 = some q8 ∧ ((hs (wC (wC (wC h q1 (Int32.toNatClampNeg (J 0)) q2 (Int32.toNatClampNeg (J 0)) (Int32.toNatClampNeg (J 4))) q3 (Int32.toNatClampNeg (J 0)) q4 (Int32.toNatClampNeg (J 0)) (Int32.toNatClampNeg (J 4))) q5 (Int32.toNatClampNeg (J 0)) q6 (Int32.toNatClampNeg (J 0)) (Int32.toNatClampNeg (J 4))) q7).1 = 1 ∧ (hs (wC (wC (wC h q1 (Int32.toNatClampNeg (J 0)) q2 (Int32.toNatClampNeg (J 0)) (Int32.toNatClampNeg (J 4))) q3 (Int32.toNatClampNeg (J 0)) q4 (Int32.toNatClampNeg (J 0)) (Int32.toNatClampNeg (J 4))) q5 (Int32.toNatClampNeg (J 0)) q6 (Int32.toNatClampNeg (J 0)) (Int32.toNatClampNeg (J 4))) q8).1 = 1) ∧ (¬ J 0 < 0 ∧ ¬ J 0 < 0 ∧ ¬ J 4 < 0) ∧ (Int32.toNatClampNeg (J 0) + Int32.toNatClampNeg (J 4) ≤ (hs (wC (wC (wC h q1 (Int32.toNatClampNeg (J 0)) q2 (Int32.toNatClampNeg (J 0)) (Int32.toNatClampNeg (J 4))) q3 (Int32.toNatClampNeg (J 0)) q4 (Int32.toNatClampNeg (J 0)) (Int32.toNatClampNeg (J 4))) q5 (Int32.toNatClampNeg (J 0)) q6 (Int32.toNatClampNeg (J 0)) (Int32.toNatClampNeg (J 4))) q7).2 ∧ Int32.toNatClampNeg (J 0) + Int32.toNatClampNeg (J 4) ≤ (hs (wC (wC (wC h q1 (Int32.toNatClampNeg (J 0)) q2 (Int32.toNatClampNeg (J 0)) (Int32.toNatClampNeg (J 4))) q3 (Int32.toNatClampNeg (J 0)) q4 (Int32.toNatClampNeg (J 0)) (Int32.toNatClampNeg (J 4))) q5 (Int32.toNatClampNeg (J 0)) q6 (Int32.toNatClampNeg (J 0)) (Int32.toNatClampNeg (J 4))) q8).2) ∧ hs (wC (wC (wC (wC h q1 (Int32.toNatClampNeg (J 0)) q2 (Int32.toNatClampNeg (J 0)) (Int32.toNatClampNeg (J 4))) q3 (Int32.toNatClampNeg (J 0)) q4 (Int32.toNatClampNeg (J 0)) (Int32.toNatClampNeg (J 4))) q5 (Int32.toNatClampNeg (J 0)) q6 (Int32.toNatClampNeg (J 0)) (Int32.toNatClampNeg (J 4))) q7 (Int32.toNatClampNeg (J 0)) q8 (Int32.toNatClampNeg (J 0)) (Int32.toNatClampNeg (J 4))) b = (0, 9) ∧ ∃ q9, hR (wC (wC (wC (wC h q1 (Int32.toNatClampNeg (J 0)) q2 (Int32.toNatClampNeg (J 0)) (Int32.toNatClampNeg (J 4))) q3 (Int32.toNatClampNeg (J 0)) q4 (Int32.toNatClampNeg (J 0)) (Int32.toNatClampNeg (J 4))) q5 (Int32.toNatClampNeg (J 0)) q6 (Int32.toNatClampNeg (J 0)) (Int32.toNatClampNeg (J 4))) q7 (Int32.toNatClampNeg (J 0)) q8 (Int32.toNatClampNeg (J 0)) (Int32.toNatClampNeg (J 4))) b 4 = some q9 ∧ hs (wC (wC (wC (wC h q1 (Int32.toNatClampNeg (J 0)) q2 (Int32.toNatClampNeg (J 0)) (Int32.toNatClampNeg (J 4))) q3 (Int32.toNatClampNeg (J 0)) q4 (Int32.toNatClampNeg (J 0)) (Int32.toNatClampNeg (J 4))) q5 (Int32.toNatClampNeg (J 0)) q6 (Int32.toNatClampNeg (J 0)) (Int32.toNatClampNeg (J 4))) q7 (Int32.toNatClampNeg (J 0)) q8 (Int32.toNatClampNeg (J 0)) (Int32.toNatClampNeg (J 4))) a = (0, 9) ∧ ∃ q10, hR (wC (wC (wC (wC h q1 (Int32.toNatClampNeg (J 0)) q2 (Int32.toNatClampNeg (J 0)) (Int32.toNatClampNeg (J 4))) q3 (Int32.toNatClampNeg (J 0)) q4 (Int32.toNatClampNeg (J 0)) (Int32.toNatClampNeg (J 4))) q5 (Int32.toNatClampNeg (J 0)) q6 (Int32.toNatClampNeg (J 0)) (Int32.toNatClampNeg (J 4))) q7 (Int32.toNatClampNeg (J 0)) q8 (Int32.toNatClampNeg (J 0)) (Int32.toNatClampNeg (J 4))) a 4 = some q10 ∧ ((hs (wC (wC (wC (wC h q1 (Int32.toNatClampNeg (J 0)) q2 (Int32.toNatClampNeg (J 0)) (Int32.toNatClampNeg (J 4))) q3 (Int32.toNatClampNeg (J 0)) q4 (Int32.toNatClampNeg (J 0)) (Int32.toNatClampNeg (J 4))) q5 (Int32.toNatClampNeg (J 0)) q6 (Int32.toNatClampNeg (J 0)) (Int32.toNatClampNeg (J 4))) q7 (Int32.toNatClampNeg (J 0)) q8 (Int32.toNatClampNeg (J 0)) (Int32.toNatClampNeg (J 4))) q9).1 = 1 ∧ (hs (wC (wC (wC (wC h q1 (Int32.toNatClampNeg (J 0)) q2 (Int32.toNatClampNeg (J 0)) (Int32.toNatClampNeg (J 4))) q3 (Int32.toNatClampNeg (J 0)) q4 (Int32.toNatClampNeg (J 0)) (Int32.toNatClampNeg (J 4))) q5 (Int32.toNatClampNeg (J 0)) q6 (Int32.toNatClampNeg (J 0)) (Int32.toNatClampNeg (J 4))) q7 (Int32.toNatClampNeg (J 0)) q8 (Int32.toNatClampNeg (J 0)) (Int32.toNatClampNeg (J 4))) q10).1 = 1) ∧ (¬ J 0 < 0 ∧ ¬ J 0 < 0 ∧ ¬ J 4 < 0) ∧ (Int32.toNatClampNeg (J 0) + Int32.toNatClampNeg (J 4) ≤ (hs (wC (wC (wC (wC h q1 (Int32.toNatClampNeg (J 0)) q2 (Int32.toNatClampNeg (J 0)) (Int32.toNatClampNeg (J 4))) q3 (Int32.toNatClampNeg (J 0)) q4 (Int32.toNatClampNeg (J 0)) (Int32.toNatClampNeg (J 4))) q5 (Int32.toNatClampNeg (J 0)) q6 (Int32.toNatClampNeg (J 0)) (Int32.toNatClampNeg (J 4))) q7 (Int32.toNatClampNeg (J 0)) q8 (Int32.toNatClampNeg (J 0)) (Int32.toNatClampNeg (J 4))) q9).2 ∧ Int32.toNatClampNeg (J 0) + Int32.toNatClampNeg (J 4) ≤ (hs (wC (wC (wC (wC h q1 (Int32.toNatClampNeg (J 0)) q2 (Int32.toNatClampNeg (J 0)) (Int32.toNatClampNeg (J 4))) q3 (Int32.toNatClampNeg (J 0)) q4 (Int32.toNatClampNeg (J 0)) (Int32.toNatClampNeg (J 4))) q5 (Int32.toNatClampNeg (J 0)) q6 (Int32.toNatClampNeg (J 0)) (Int32.toNatClampNeg (J 4))) q7 (Int32.toNatClampNeg (J 0)) q8 (Int32.toNatClampNeg (J 0)) (Int32.toNatClampNeg (J 4))) q10).2) ∧ hs (wC (wC (wC (wC (wC h q1 (Int32.toNatClampNeg (J 0)) q2 (Int32.toNatClampNeg (J 0)) (Int32.toNatClampNeg (J 4))) q3 (Int32.toNatClampNeg (J 0)) q4 (Int32.toNatClampNeg (J 0)) (Int32.toNatClampNeg (J 4))) q5 (Int32.toNatClampNeg (J 0)) q6 (Int32.toNatClampNeg (J 0)) (Int32.toNatClampNeg (J 4))) q7 (Int32.toNatClampNeg (J 0)) q8 (Int32.toNatClampNeg (J 0)) (Int32.toNatClampNeg (J 4))) q9 (Int32.toNatClampNeg (J 0)) q10 (Int32.toNatClampNeg (J 0)) (Int32.toNatClampNeg (J 4))) b = (0, 9) ∧ hs (wC (wC (wC (wC (wC h q1 (Int32.toNatClampNeg (J 0)) q2 (Int32.toNatClampNeg (J 0)) (Int32.toNatClampNeg (J 4))) q3 (Int32.toNatClampNeg (J 0)) q4 (Int32.toNatClampNeg (J 0)) (Int32.toNatClampNeg (J 4))) q5 (Int32.toNatClampNeg (J 0)) q6 (Int32.toNatClampNeg (J 0)) (Int32.toNatClampNeg (J 4))) q7 (Int32.toNatClampNeg (J 0)) q8 (Int32.toNatClampNeg (J 0)) (Int32.toNatClampNeg (J 4))) q9 (Int32.toNatClampNeg (J 0)) q10 (Int32.toNatClampNeg (J 0)) (Int32.toNatClampNeg (J 4))) a = (0, 9) ∧ Q none (wG (wC (wC (wC (wC (wC h q1 (Int32.toNatClampNeg (J 0)) q2 (Int32.toNatClampNeg (J 0)) (Int32.toNatClampNeg (J 4))) q3 (Int32.toNatClampNeg (J 0)) q4 (Int32.toNatClampNeg (J 0)) (Int32.toNatClampNeg (J 4))) q5 (Int32.toNatClampNeg (J 0)) q6 (Int32.toNatClampNeg (J 0)) (Int32.toNatClampNeg (J 4))) q7 (Int32.toNatClampNeg (J 0)) q8 (Int32.toNatClampNeg (J 0)) (Int32.toNatClampNeg (J 4))) q9 (Int32.toNatClampNeg (J 0)) q10 (Int32.toNatClampNeg (J 0)) (Int32.toNatClampNeg (J 4))) a 5 (hF (wC (wC (wC (wC (wC h q1 (Int32.toNatClampNeg (J 0)) q2 (Int32.toNatClampNeg (J 0)) (Int32.toNatClampNeg (J 4))) q3 (Int32.toNatClampNeg (J 0)) q4 (Int32.toNatClampNeg (J 0)) (Int32.toNatClampNeg (J 4))) q5 (Int32.toNatClampNeg (J 0)) q6 (Int32.toNatClampNeg (J 0)) (Int32.toNatClampNeg (J 4))) q7 (Int32.toNatClampNeg (J 0)) q8 (Int32.toNatClampNeg (J 0)) (Int32.toNatClampNeg (J 4))) q9 (Int32.toNatClampNeg (J 0)) q10 (Int32.toNatClampNeg (J 0)) (Int32.toNatClampNeg (J 4))) b 5))
  try simp only [aI_wAL, fI_wAL, aL_wA, aL_wF, aI_wA_ne, aI_wF_ne, fI_wA_ne, fI_wF_ne, fI_wF_nk, aL_wAL_ne, J_sameA, J_sameF, aL_same, Nat.add_left_cancel_iff, Nat.add_eq_left, Nat.left_eq_add, not_false_eq_true, Nat.reduceEqDiff, Nat.reduceAdd, J_add, J_sub, J_mul, J_neg, J_and, J_or, J_xor, J_shl, J_shr, J_div, J_i2b, J_i2l, J_l2i, J_lcm, J_max, J_min, J_nab, J_nao, rdA, rdF, rdL, wA_fold, wF_fold, wL_fold, wC_fold]
  refine ⟨(world_0 K_h_1), _, (world_6 K_h_1), ?_⟩
  refine ⟨(world_0 K_h_0), _, (world_6 K_h_0), ?_⟩
  refine ⟨⟨congrArg Prod.fst (world_1 K_h_1), congrArg Prod.fst (world_1 K_h_0)⟩, by decide, ⟨?_, ?_⟩, ?_⟩
  · exact cpo (world_1 K_h_1) (by decide)
  · exact cpo (world_1 K_h_0) (by decide)
  refine ⟨(world_0 K_h_1), _, (world_7 K_h_1), ?_⟩
  refine ⟨(world_0 K_h_0), _, (world_7 K_h_0), ?_⟩
  refine ⟨⟨congrArg Prod.fst (world_2 K_h_1), congrArg Prod.fst (world_2 K_h_0)⟩, by decide, ⟨?_, ?_⟩, ?_⟩
  · exact cpo (world_2 K_h_1) (by decide)
  · exact cpo (world_2 K_h_0) (by decide)
  refine ⟨(world_0 K_h_1), _, (world_8 K_h_1), ?_⟩
  refine ⟨(world_0 K_h_0), _, (world_8 K_h_0), ?_⟩
  refine ⟨⟨congrArg Prod.fst (world_3 K_h_1), congrArg Prod.fst (world_3 K_h_0)⟩, by decide, ⟨?_, ?_⟩, ?_⟩
  · exact cpo (world_3 K_h_1) (by decide)
  · exact cpo (world_3 K_h_0) (by decide)
  refine ⟨(world_0 K_h_1), _, (world_9 K_h_1), ?_⟩
  refine ⟨(world_0 K_h_0), _, (world_9 K_h_0), ?_⟩
  refine ⟨⟨congrArg Prod.fst (world_4 K_h_1), congrArg Prod.fst (world_4 K_h_0)⟩, by decide, ⟨?_, ?_⟩, ?_⟩
  · exact cpo (world_4 K_h_1) (by decide)
  · exact cpo (world_4 K_h_0) (by decide)
  refine ⟨(world_0 K_h_1), _, (world_10 K_h_1), ?_⟩
  refine ⟨(world_0 K_h_0), _, (world_10 K_h_0), ?_⟩
  refine ⟨⟨congrArg Prod.fst (world_5 K_h_1), congrArg Prod.fst (world_5 K_h_0)⟩, by decide, ⟨?_, ?_⟩, ?_⟩
  · exact cpo (world_5 K_h_1) (by decide)
  · exact cpo (world_5 K_h_0) (by decide)
  refine ⟨(world_0 K_h_1), ?_⟩
  refine ⟨(world_0 K_h_0), ?_⟩
  exact w
theorem m88 {X : Cst} {d : Nat} {a b : Nat} {h : AH} {Q : Post} (C : Lay h) (K : WorldAt h a) (L : WorldAt h b) (hd : 1 ≤ d) (ap : a + 5 < b ∨ b + 5 < a)
    (k : ∀ h', SH h h' → (Fr (fun c _ => a ≤ c ∧ c ≤ a + 5) h h' ∧ WCopy h h' a b) → Q none h') : Ex X PG d 88 0 [some (.ref a), some (.ref b)] [] h Q := by
  obtain ⟨d, rfl⟩ : ∃ e, d = e + 1 := ⟨d - 1, by omega⟩
  refine r88_0 C K L ?_
  have F : Fr (fun c _ => a ≤ c ∧ c ≤ a + 5) h (wF (wCp (wCp (wCp (wCp (wCp h (b + 1) 0 (a + 1) 0 4) (b + 2) 0 (a + 2) 0 4) (b + 3) 0 (a + 3) 0 4) (b + 4) 0 (a + 4) 0 4) (b + 5) 0 (a + 5) 0 4) a 5 (fI (wCp (wCp (wCp (wCp (wCp h (b + 1) 0 (a + 1) 0 4) (b + 2) 0 (a + 2) 0 4) (b + 3) 0 (a + 3) 0 4) (b + 4) 0 (a + 4) 0 4) (b + 5) 0 (a + 5) 0 4) b 5)) :=
    (((((Fr.rf.wCp (fun _ => by omega)).wCp (fun _ => by omega)).wCp (fun _ => by omega)).wCp (fun _ => by omega)).wCp (fun _ => by omega)).wF (by omega)
  refine k _ F.1 ⟨F, fun p h0 h1 => ?_, ?_⟩
  · refine ⟨?_, ?_, ?_, ?_, ?_⟩
    · rw [aI_wF_ne (by omega), aI_wCp_ne (by omega), aI_wCp_ne (by omega), aI_wCp_ne (by omega), aI_wCp_ne (by omega), aI_wCp (by decide) ⟨h0, h1⟩]
    · rw [aI_wF_ne (by omega), aI_wCp_ne (by omega), aI_wCp_ne (by omega), aI_wCp_ne (by omega), aI_wCp (by decide) ⟨h0, h1⟩, aI_wCp_ne (by omega)]
    · rw [aI_wF_ne (by omega), aI_wCp_ne (by omega), aI_wCp_ne (by omega), aI_wCp (by decide) ⟨h0, h1⟩, aI_wCp_ne (by omega), aI_wCp_ne (by omega)]
    · rw [aI_wF_ne (by omega), aI_wCp_ne (by omega), aI_wCp (by decide) ⟨h0, h1⟩, aI_wCp_ne (by omega), aI_wCp_ne (by omega), aI_wCp_ne (by omega)]
    · rw [aI_wF_ne (by omega), aI_wCp (by decide) ⟨h0, h1⟩, aI_wCp_ne (by omega), aI_wCp_ne (by omega), aI_wCp_ne (by omega), aI_wCp_ne (by omega)]
  · rw [fI_wF_eq (fI_rg _ _ _), fI_wCp_ne (by omega), fI_wCp_ne (by omega), fI_wCp_ne (by omega), fI_wCp_ne (by omega), fI_wCp_ne (by omega)]
-- OutwardDoors$World.begin(LOutwardDoors$Plan;)V at 0
set_option maxRecDepth 20000 in
set_option maxHeartbeats 4000000 in
theorem r56_0 {X : Cst} {d : Nat} {a : Nat} {b : Nat} {h : AH} {Q : Post} (C_h : Lay h) (K_h_0 : WorldAt h a) (K_h_1 : PlanAt h b) (hd : 1 ≤ d)
  (w : (∀ h7, SH (wCp (wCp h (b + 4) 0 (a + 1) 0 4) (b + 5) 0 (a + 2) 0 4) h7 → (Fr (fun c2 _ => c2 = (a + 3)) (wCp (wCp h (b + 4) 0 (a + 1) 0 4) (b + 5) 0 (a + 2) 0 4) h7 ∧ ∀ k, 0 ≤ k → k < 4 → aI h7 (a + 3) k = 0) → (∀ h10, SH h7 h10 → (Fr (fun c2 _ => c2 = (a + 4)) h7 h10 ∧ ∀ k, 0 ≤ k → k < 4 → aI h10 (a + 4) k = 0) → (∀ h13, SH h10 h13 → (Fr (fun c2 _ => c2 = (a + 5)) h10 h13 ∧ ∀ k, 0 ≤ k → k < 4 → aI h13 (a + 5) k = (-1)) → Q none (wF h13 a 5 0))))) :
    Ex X PG (d + 1) 56 0 [some (.ref a), some (.ref b)] [] h Q := by
  refine wpx_ok (cut := []) 32 d 56 0 _ _ _ _ ?_
  show hs h b = (0, 2) ∧ ∃ q1, hR h b 9 = some q1 ∧ hs h a = (0, 9) ∧ ∃ q2, hR h a 0 = some q2 ∧ ((hs h q1).1 = 1 ∧ (hs h q2).1 = 1) ∧ (¬ J 0 < 0 ∧ ¬ J 0 < 0 ∧ ¬ J 4 < 0) ∧ (Int32.toNatClampNeg (J 0) + Int32.toNatClampNeg (J 4) ≤ (hs h q1).2 ∧ Int32.toNatClampNeg (J 0) + Int32.toNatClampNeg (J 4) ≤ (hs h q2).2) ∧ hs (wC h q1 (Int32.toNatClampNeg (J 0)) q2 (Int32.toNatClampNeg (J 0)) (Int32.toNatClampNeg (J 4))) b = (0, 2) ∧ ∃ q3, hR (wC h q1 (Int32.toNatClampNeg (J 0)) q2 (Int32.toNatClampNeg (J 0)) (Int32.toNatClampNeg (J 4))) b 10 = some q3 ∧ hs (wC h q1 (Int32.toNatClampNeg (J 0)) q2 (Int32.toNatClampNeg (J 0)) (Int32.toNatClampNeg (J 4))) a = (0, 9) ∧ ∃ q4, hR (wC h q1 (Int32.toNatClampNeg (J 0)) q2 (Int32.toNatClampNeg (J 0)) (Int32.toNatClampNeg (J 4))) a 1 = some q4 ∧ ((hs (wC h q1 (Int32.toNatClampNeg (J 0)) q2 (Int32.toNatClampNeg (J 0)) (Int32.toNatClampNeg (J 4))) q3).1 = 1 ∧ (hs (wC h q1 (Int32.toNatClampNeg (J 0)) q2 (Int32.toNatClampNeg (J 0)) (Int32.toNatClampNeg (J 4))) q4).1 = 1) ∧ (¬ J 0 < 0 ∧ ¬ J 0 < 0 ∧ ¬ J 4 < 0) ∧ (Int32.toNatClampNeg (J 0) + Int32.toNatClampNeg (J 4) ≤ (hs (wC h q1 (Int32.toNatClampNeg (J 0)) q2 (Int32.toNatClampNeg (J 0)) (Int32.toNatClampNeg (J 4))) q3).2 ∧ Int32.toNatClampNeg (J 0) + Int32.toNatClampNeg (J 4) ≤ (hs (wC h q1 (Int32.toNatClampNeg (J 0)) q2 (Int32.toNatClampNeg (J 0)) (Int32.toNatClampNeg (J 4))) q4).2) ∧ hs (wC (wC h q1 (Int32.toNatClampNeg (J 0)) q2 (Int32.toNatClampNeg (J 0)) (Int32.toNatClampNeg (J 4))) q3 (Int32.toNatClampNeg (J 0)) q4 (Int32.toNatClampNeg (J 0)) (Int32.toNatClampNeg (J 4))) a = (0, 9) ∧ ∃ q5, hR (wC (wC h q1 (Int32.toNatClampNeg (J 0)) q2 (Int32.toNatClampNeg (J 0)) (Int32.toNatClampNeg (J 4))) q3 (Int32.toNatClampNeg (J 0)) q4 (Int32.toNatClampNeg (J 0)) (Int32.toNatClampNeg (J 4))) a 2 = some q5 ∧ Ex X PG d 4 0 [some (.ref q5), some (.int (J 0)), none, none] [] (wC (wC h q1 (Int32.toNatClampNeg (J 0)) q2 (Int32.toNatClampNeg (J 0)) (Int32.toNatClampNeg (J 4))) q3 (Int32.toNatClampNeg (J 0)) q4 (Int32.toNatClampNeg (J 0)) (Int32.toNatClampNeg (J 4))) (fun v6 h7 => v6 = none ∧ hs h7 a = (0, 9) ∧ ∃ q8, hR h7 a 3 = some q8 ∧ Ex X PG d 4 0 [some (.ref q8), some (.int (J 0)), none, none] [] h7 (fun v9 h10 => v9 = none ∧ hs h10 a = (0, 9) ∧ ∃ q11, hR h10 a 4 = some q11 ∧ Ex X PG d 4 0 [some (.ref q11), some (.int (J (-1))), none, none] [] h10 (fun v12 h13 => v12 = none ∧ hs h13 a = (0, 9) ∧ Q none (wG h13 a 5 (J 0)))))
  try simp only [aI_wAL, fI_wAL, aL_wA, aL_wF, aI_wA_ne, aI_wF_ne, fI_wA_ne, fI_wF_ne, fI_wF_nk, aL_wAL_ne, J_sameA, J_sameF, aL_same, Nat.add_left_cancel_iff, Nat.add_eq_left, Nat.left_eq_add, not_false_eq_true, Nat.reduceEqDiff, Nat.reduceAdd, J_add, J_sub, J_mul, J_neg, J_and, J_or, J_xor, J_shl, J_shr, J_div, J_i2b, J_i2l, J_l2i, J_lcm, J_max, J_min, J_nab, J_nao, rdA, rdF, rdL, wA_fold, wF_fold, wL_fold, wC_fold]
  refine ⟨(plan_0 K_h_1), _, (plan_14 K_h_1), ?_⟩
  refine ⟨(world_0 K_h_0), _, (world_6 K_h_0), ?_⟩
  refine ⟨⟨congrArg Prod.fst (plan_4 K_h_1), congrArg Prod.fst (world_1 K_h_0)⟩, by decide, ⟨?_, ?_⟩, ?_⟩
  · exact cpo (plan_4 K_h_1) (by decide)
  · exact cpo (world_1 K_h_0) (by decide)
  refine ⟨(plan_0 K_h_1), _, (plan_15 K_h_1), ?_⟩
  refine ⟨(world_0 K_h_0), _, (world_7 K_h_0), ?_⟩
  refine ⟨⟨congrArg Prod.fst (plan_5 K_h_1), congrArg Prod.fst (world_2 K_h_0)⟩, by decide, ⟨?_, ?_⟩, ?_⟩
  · exact cpo (plan_5 K_h_1) (by decide)
  · exact cpo (world_2 K_h_0) (by decide)
  refine ⟨(world_0 K_h_0), _, (world_8 K_h_0), ?_⟩
  refine m4 (h := wCp (wCp h (b + 4) 0 (a + 1) 0 4) (b + 5) 0 (a + 2) 0 4) (c := (a + 3)) (v := 0) C_h (n := 4) (world_3 K_h_0) (by decide) (by omega) (by decide) ?_
  intro h7 s18 p19
  replace w := w h7 s18 p19
  refine ⟨rfl, ?_⟩
  have C_h7 := Lay_SH s18 C_h
  have K_h7_0 := WorldAt_SH s18 K_h_0
  have K_h7_1 := PlanAt_SH s18 K_h_1
  try simp only [aI_wAL, fI_wAL, aL_wA, aL_wF, aI_wA_ne, aI_wF_ne, fI_wA_ne, fI_wF_ne, fI_wF_nk, aL_wAL_ne, J_sameA, J_sameF, aL_same, Nat.add_left_cancel_iff, Nat.add_eq_left, Nat.left_eq_add, not_false_eq_true, Nat.reduceEqDiff, Nat.reduceAdd, J_add, J_sub, J_mul, J_neg, J_and, J_or, J_xor, J_shl, J_shr, J_div, J_i2b, J_i2l, J_l2i, J_lcm, J_max, J_min, J_nab, J_nao, rdA, rdF, rdL, wA_fold, wF_fold, wL_fold, wC_fold]
  refine ⟨(world_0 K_h7_0), _, (world_9 K_h7_0), ?_⟩
  refine m4 (h := h7) (c := (a + 4)) (v := 0) C_h7 (n := 4) (world_4 K_h7_0) (by decide) (by omega) (by decide) ?_
  intro h10 s16 p17
  replace w := w h10 s16 p17
  refine ⟨rfl, ?_⟩
  have C_h10 := Lay_SH s16 C_h7
  have K_h10_0 := WorldAt_SH s16 K_h7_0
  have K_h10_1 := PlanAt_SH s16 K_h7_1
  try simp only [aI_wAL, fI_wAL, aL_wA, aL_wF, aI_wA_ne, aI_wF_ne, fI_wA_ne, fI_wF_ne, fI_wF_nk, aL_wAL_ne, J_sameA, J_sameF, aL_same, Nat.add_left_cancel_iff, Nat.add_eq_left, Nat.left_eq_add, not_false_eq_true, Nat.reduceEqDiff, Nat.reduceAdd, J_add, J_sub, J_mul, J_neg, J_and, J_or, J_xor, J_shl, J_shr, J_div, J_i2b, J_i2l, J_l2i, J_lcm, J_max, J_min, J_nab, J_nao, rdA, rdF, rdL, wA_fold, wF_fold, wL_fold, wC_fold]
  refine ⟨(world_0 K_h10_0), _, (world_10 K_h10_0), ?_⟩
  refine m4 (h := h10) (c := (a + 5)) (v := (-1)) C_h10 (n := 4) (world_5 K_h10_0) (by decide) (by omega) (by decide) ?_
  intro h13 s14 p15
  replace w := w h13 s14 p15
  refine ⟨rfl, ?_⟩
  have C_h13 := Lay_SH s14 C_h10
  have K_h13_0 := WorldAt_SH s14 K_h10_0
  have K_h13_1 := PlanAt_SH s14 K_h10_1
  try simp only [aI_wAL, fI_wAL, aL_wA, aL_wF, aI_wA_ne, aI_wF_ne, fI_wA_ne, fI_wF_ne, fI_wF_nk, aL_wAL_ne, J_sameA, J_sameF, aL_same, Nat.add_left_cancel_iff, Nat.add_eq_left, Nat.left_eq_add, not_false_eq_true, Nat.reduceEqDiff, Nat.reduceAdd, J_add, J_sub, J_mul, J_neg, J_and, J_or, J_xor, J_shl, J_shr, J_div, J_i2b, J_i2l, J_l2i, J_lcm, J_max, J_min, J_nab, J_nao, rdA, rdF, rdL, wA_fold, wF_fold, wL_fold, wC_fold]
  refine ⟨(world_0 K_h13_0), ?_⟩
  exact w
/-- a world at the begin, as the plan tells it -/
def WBeg (h h' : AH) (a b : Nat) : Prop := (∀ p, 0 ≤ p → p < 4 → aI h' (a + 1) p = aI h (b + 4) p ∧ aI h' (a + 2) p = aI h (b + 5) p ∧ aI h' (a + 3) p = 0 ∧ aI h' (a + 4) p = 0 ∧ aI h' (a + 5) p = -1) ∧ fI h' a 5 = 0
theorem m56 {X : Cst} {d : Nat} {a b : Nat} {h : AH} {Q : Post} (C : Lay h) (K : WorldAt h a) (L : PlanAt h b) (hd : 2 ≤ d) (ap : a + 5 < b ∨ b + 10 < a)
    (k : ∀ h', SH h h' → (Fr (fun c _ => a ≤ c ∧ c ≤ a + 5) h h' ∧ WBeg h h' a b) → Q none h') : Ex X PG d 56 0 [some (.ref a), some (.ref b)] [] h Q := by
  obtain ⟨d, rfl⟩ : ∃ e, d = e + 1 := ⟨d - 1, by omega⟩
  refine r56_0 C K L (by omega) ?_
  intro h1 s1 p1 h2 s2 p2 h3 s3 p3
  have F0 : Fr (fun c _ => a ≤ c ∧ c ≤ a + 5) h (wCp (wCp h (b + 4) 0 (a + 1) 0 4) (b + 5) 0 (a + 2) 0 4) := (Fr.rf.wCp (fun _ => by omega)).wCp (fun _ => by omega)
  have F1 := F0.tr (p1.1.mo (U := fun c _ => a ≤ c ∧ c ≤ a + 5) fun c k z => by omega)
  have F2 := F1.tr (p2.1.mo (U := fun c _ => a ≤ c ∧ c ≤ a + 5) fun c k z => by omega)
  have F3 := F2.tr (p3.1.mo (U := fun c _ => a ≤ c ∧ c ≤ a + 5) fun c k z => by omega)
  refine k _ F3.1 ⟨F3.wF (by omega), fun p x0 x1 => ?_, fI_wF_eq (by decide)⟩
  have u3 : ∀ i, ¬ i = 5 → aI h3 (a + i) = aI h2 (a + i) := fun i hi => p3.1.a _ (fun k z => by omega)
  have u2 : ∀ i, ¬ i = 4 → aI h2 (a + i) = aI h1 (a + i) := fun i hi => p2.1.a _ (fun k z => by omega)
  have u1 : ∀ i, ¬ i = 3 → aI h1 (a + i) = aI (wCp (wCp h (b + 4) 0 (a + 1) 0 4) (b + 5) 0 (a + 2) 0 4) (a + i) := fun i hi => p1.1.a _ (fun k z => by omega)
  rw [aI_wF_ne (by omega), aI_wF_ne (by omega), aI_wF_ne (by omega), aI_wF_ne (by omega), aI_wF_ne (by omega)]
  refine ⟨?_, ?_, ?_, ?_, p3.2 p x0 x1⟩
  · rw [u3 1 (by decide), u2 1 (by decide), u1 1 (by decide), aI_wCp_ne (by omega), aI_wCp (by decide) ⟨x0, x1⟩]
  · rw [u3 2 (by decide), u2 2 (by decide), u1 2 (by decide), aI_wCp (by decide) ⟨x0, x1⟩, aI_wCp_ne (by omega)]
  · rw [u3 3 (by decide), u2 3 (by decide)]; exact p1.2 p x0 x1
  · rw [u3 4 (by decide)]; exact p2.2 p x0 x1
-- OutwardDoors$World.goOut(II)V at 0
set_option maxRecDepth 20000 in
set_option maxHeartbeats 4000000 in
theorem r102_0 {X : Cst} {d : Nat} {a : Nat} {x1 : Int} {x2 : Int} {h : AH} {Q : Post} (C_h : Lay h) (K_h_0 : WorldAt h a)
  (w : (0 ≤ x1 ∧ x1 < 4) ∧ Q none (wA (wA h (a + 1) x1 x2) (a + 4) x1 ((aI h (a + 4) x1) + 1))) :
    Ex X PG (d + 1) 102 0 [some (.ref a), some (.int (J x1)), some (.int (J x2))] [] h Q := by
  refine wpx_ok (cut := []) 14 d 102 0 _ _ _ _ ?_
  show hs h a = (0, 9) ∧ ∃ q1, hR h a 0 = some q1 ∧ (hs h q1).1 = 1 ∧ ix (J x1) (hs h q1).2 ∧ hs (wI h q1 (Int32.toNatClampNeg (J x1)) (J x2)) a = (0, 9) ∧ ∃ q3, hR (wI h q1 (Int32.toNatClampNeg (J x1)) (J x2)) a 3 = some q3 ∧ (hs (wI h q1 (Int32.toNatClampNeg (J x1)) (J x2)) q3).1 = 1 ∧ ix (J x1) (hs (wI h q1 (Int32.toNatClampNeg (J x1)) (J x2)) q3).2 ∧ (hs (wI h q1 (Int32.toNatClampNeg (J x1)) (J x2)) q3).1 = 1 ∧ ix (J x1) (hs (wI h q1 (Int32.toNatClampNeg (J x1)) (J x2)) q3).2 ∧ Q none (wI (wI h q1 (Int32.toNatClampNeg (J x1)) (J x2)) q3 (Int32.toNatClampNeg (J x1)) ((hI (wI h q1 (Int32.toNatClampNeg (J x1)) (J x2)) q3 (Int32.toNatClampNeg (J x1))) + (J 1)))
  try simp only [aI_wAL, fI_wAL, aL_wA, aL_wF, aI_wA_ne, aI_wF_ne, fI_wA_ne, fI_wF_ne, fI_wF_nk, aL_wAL_ne, J_sameA, J_sameF, aL_same, Nat.add_left_cancel_iff, Nat.add_eq_left, Nat.left_eq_add, not_false_eq_true, Nat.reduceEqDiff, Nat.reduceAdd, J_add, J_sub, J_mul, J_neg, J_and, J_or, J_xor, J_shl, J_shr, J_div, J_i2b, J_i2l, J_l2i, J_lcm, J_max, J_min, J_nab, J_nao, rdA, rdF, rdL, wA_fold, wF_fold, wL_fold, wC_fold]
  refine ⟨(world_0 K_h_0), _, (world_6 K_h_0), ?_⟩
  obtain ⟨k2, w⟩ := w
  refine ⟨congrArg Prod.fst (world_1 K_h_0), ixs (world_1 K_h_0) k2 (by decide), ?_⟩
  refine ⟨(world_0 K_h_0), _, (world_9 K_h_0), ?_⟩
  refine ⟨congrArg Prod.fst (world_4 K_h_0), ixs (world_4 K_h_0) k2 (by decide), ?_⟩
  try simp only [aI_wAL, fI_wAL, aL_wA, aL_wF, aI_wA_ne, aI_wF_ne, fI_wA_ne, fI_wF_ne, fI_wF_nk, aL_wAL_ne, J_sameA, J_sameF, aL_same, Nat.add_left_cancel_iff, Nat.add_eq_left, Nat.left_eq_add, not_false_eq_true, Nat.reduceEqDiff, Nat.reduceAdd]
  refine ⟨congrArg Prod.fst (world_4 K_h_0), ixs (world_4 K_h_0) k2 (by decide), ?_⟩
  exact w
theorem m102 {X : Cst} {d : Nat} {a : Nat} {p t : Int} {h : AH} {Q : Post} (C : Lay h) (K : WorldAt h a) (hd : 1 ≤ d) (c : 0 ≤ p ∧ p < 4) (k : Q none (wA (wA h (a + 1) p t) (a + 4) p (aI h (a + 4) p + 1))) : Ex X PG d 102 0 [some (.ref a), some (.int (J p)), some (.int (J t))] [] h Q := by
  obtain ⟨d, rfl⟩ : ∃ e, d = e + 1 := ⟨d - 1, by omega⟩
  exact r102_0 C K ⟨c, k⟩
-- OutwardDoors$World.comeIn(III)V at 0
set_option maxRecDepth 20000 in
set_option maxHeartbeats 4000000 in
theorem r105_0 {X : Cst} {d : Nat} {a : Nat} {x1 : Int} {x2 : Int} {x3 : Int} {h : AH} {Q : Post} (C_h : Lay h) (K_h_0 : WorldAt h a)
  (w : (0 ≤ x1 ∧ x1 < 4) ∧ Q none (wA (wA (wA h (a + 1) x1 x2) (a + 3) x1 ((aI h (a + 3) x1) + 1)) (a + 5) x1 x3)) :
    Ex X PG (d + 1) 105 0 [some (.ref a), some (.int (J x1)), some (.int (J x2)), some (.int (J x3))] [] h Q := by
  refine wpx_ok (cut := []) 19 d 105 0 _ _ _ _ ?_
  show hs h a = (0, 9) ∧ ∃ q1, hR h a 0 = some q1 ∧ (hs h q1).1 = 1 ∧ ix (J x1) (hs h q1).2 ∧ hs (wI h q1 (Int32.toNatClampNeg (J x1)) (J x2)) a = (0, 9) ∧ ∃ q3, hR (wI h q1 (Int32.toNatClampNeg (J x1)) (J x2)) a 2 = some q3 ∧ (hs (wI h q1 (Int32.toNatClampNeg (J x1)) (J x2)) q3).1 = 1 ∧ ix (J x1) (hs (wI h q1 (Int32.toNatClampNeg (J x1)) (J x2)) q3).2 ∧ (hs (wI h q1 (Int32.toNatClampNeg (J x1)) (J x2)) q3).1 = 1 ∧ ix (J x1) (hs (wI h q1 (Int32.toNatClampNeg (J x1)) (J x2)) q3).2 ∧ hs (wI (wI h q1 (Int32.toNatClampNeg (J x1)) (J x2)) q3 (Int32.toNatClampNeg (J x1)) ((hI (wI h q1 (Int32.toNatClampNeg (J x1)) (J x2)) q3 (Int32.toNatClampNeg (J x1))) + (J 1))) a = (0, 9) ∧ ∃ q4, hR (wI (wI h q1 (Int32.toNatClampNeg (J x1)) (J x2)) q3 (Int32.toNatClampNeg (J x1)) ((hI (wI h q1 (Int32.toNatClampNeg (J x1)) (J x2)) q3 (Int32.toNatClampNeg (J x1))) + (J 1))) a 4 = some q4 ∧ (hs (wI (wI h q1 (Int32.toNatClampNeg (J x1)) (J x2)) q3 (Int32.toNatClampNeg (J x1)) ((hI (wI h q1 (Int32.toNatClampNeg (J x1)) (J x2)) q3 (Int32.toNatClampNeg (J x1))) + (J 1))) q4).1 = 1 ∧ ix (J x1) (hs (wI (wI h q1 (Int32.toNatClampNeg (J x1)) (J x2)) q3 (Int32.toNatClampNeg (J x1)) ((hI (wI h q1 (Int32.toNatClampNeg (J x1)) (J x2)) q3 (Int32.toNatClampNeg (J x1))) + (J 1))) q4).2 ∧ Q none (wI (wI (wI h q1 (Int32.toNatClampNeg (J x1)) (J x2)) q3 (Int32.toNatClampNeg (J x1)) ((hI (wI h q1 (Int32.toNatClampNeg (J x1)) (J x2)) q3 (Int32.toNatClampNeg (J x1))) + (J 1))) q4 (Int32.toNatClampNeg (J x1)) (J x3))
  try simp only [aI_wAL, fI_wAL, aL_wA, aL_wF, aI_wA_ne, aI_wF_ne, fI_wA_ne, fI_wF_ne, fI_wF_nk, aL_wAL_ne, J_sameA, J_sameF, aL_same, Nat.add_left_cancel_iff, Nat.add_eq_left, Nat.left_eq_add, not_false_eq_true, Nat.reduceEqDiff, Nat.reduceAdd, J_add, J_sub, J_mul, J_neg, J_and, J_or, J_xor, J_shl, J_shr, J_div, J_i2b, J_i2l, J_l2i, J_lcm, J_max, J_min, J_nab, J_nao, rdA, rdF, rdL, wA_fold, wF_fold, wL_fold, wC_fold]
  refine ⟨(world_0 K_h_0), _, (world_6 K_h_0), ?_⟩
  obtain ⟨k2, w⟩ := w
  refine ⟨congrArg Prod.fst (world_1 K_h_0), ixs (world_1 K_h_0) k2 (by decide), ?_⟩
  refine ⟨(world_0 K_h_0), _, (world_8 K_h_0), ?_⟩
  refine ⟨congrArg Prod.fst (world_3 K_h_0), ixs (world_3 K_h_0) k2 (by decide), ?_⟩
  try simp only [aI_wAL, fI_wAL, aL_wA, aL_wF, aI_wA_ne, aI_wF_ne, fI_wA_ne, fI_wF_ne, fI_wF_nk, aL_wAL_ne, J_sameA, J_sameF, aL_same, Nat.add_left_cancel_iff, Nat.add_eq_left, Nat.left_eq_add, not_false_eq_true, Nat.reduceEqDiff, Nat.reduceAdd]
  refine ⟨congrArg Prod.fst (world_3 K_h_0), ixs (world_3 K_h_0) k2 (by decide), ?_⟩
  refine ⟨(world_0 K_h_0), _, (world_10 K_h_0), ?_⟩
  refine ⟨congrArg Prod.fst (world_5 K_h_0), ixs (world_5 K_h_0) k2 (by decide), ?_⟩
  exact w
theorem m105 {X : Cst} {d : Nat} {a : Nat} {p t b : Int} {h : AH} {Q : Post} (C : Lay h) (K : WorldAt h a) (hd : 1 ≤ d) (c : 0 ≤ p ∧ p < 4) (k : Q none (wA (wA (wA h (a + 1) p t) (a + 3) p (aI h (a + 3) p + 1)) (a + 5) p b)) : Ex X PG d 105 0 [some (.ref a), some (.int (J p)), some (.int (J t)), some (.int (J b))] [] h Q := by
  obtain ⟨d, rfl⟩ : ∃ e, d = e + 1 := ⟨d - 1, by omega⟩
  exact r105_0 C K ⟨c, k⟩
-- OutwardDoors$World.peopleIn(II)I at 0
set_option maxRecDepth 20000 in
set_option maxHeartbeats 4000000 in
theorem r81_0 {X : Cst} {d : Nat} {a : Nat} {x1 : Int} {x2 : Int} {h : AH} {Q : Post} (C_h : Lay h) (K_h_0 : WorldAt h a)
  (w : Ex X PG (d + 1) 81 5 [some (.ref a), some (.int (J x1)), some (.int (J x2)), some (.int (J 0)), some (.int (J 0))] [] h Q) :
    Ex X PG (d + 1) 81 0 [some (.ref a), some (.int (J x1)), some (.int (J x2)), none, none] [] h Q := by
  refine wpx_ok (cut := [5]) 4 d 81 0 _ _ _ _ ?_
  show Ex X PG (d + 1) 81 5 [some (.ref a), some (.int (J x1)), some (.int (J x2)), some (.int (J 0)), some (.int (J 0))] [] h Q
  try simp only [aI_wAL, fI_wAL, aL_wA, aL_wF, aI_wA_ne, aI_wF_ne, fI_wA_ne, fI_wF_ne, fI_wF_nk, aL_wAL_ne, J_sameA, J_sameF, aL_same, Nat.add_left_cancel_iff, Nat.add_eq_left, Nat.left_eq_add, not_false_eq_true, Nat.reduceEqDiff, Nat.reduceAdd, J_add, J_sub, J_mul, J_neg, J_and, J_or, J_xor, J_shl, J_shr, J_div, J_i2b, J_i2l, J_l2i, J_lcm, J_max, J_min, J_nab, J_nao, rdA, rdF, rdL, wA_fold, wF_fold, wL_fold, wC_fold]
  exact w
-- OutwardDoors$World.peopleIn(II)I at 5
set_option maxRecDepth 20000 in
set_option maxHeartbeats 4000000 in
theorem r81_5 {X : Cst} {d : Nat} {a : Nat} {x1 : Int} {x2 : Int} {x3 : Int} {x4 : Int} {h : AH} {Q : Post} (C_h : Lay h) (K_h_0 : WorldAt h a)
  (w : (-2147483648 ≤ x4 ∧ x4 < 2147483648) ∧ (-2147483648 ≤ x2 ∧ x2 < 2147483648) ∧ ((x2 ≤ x4 → Q (some (.int (J x3))) h) ∧ (¬ x2 ≤ x4 → (0 ≤ x4 ∧ x4 < 4) ∧ (-2147483648 ≤ x1 ∧ x1 < 2147483648) ∧ ((¬ aI h (a + 1) x4 = x1 → Ex X PG (d + 1) 81 5 [some (.ref a), some (.int (J x1)), some (.int (J x2)), some (.int (J x3)), some (.int (J (x4 + 1)))] [] h Q) ∧ (aI h (a + 1) x4 = x1 → Ex X PG (d + 1) 81 5 [some (.ref a), some (.int (J x1)), some (.int (J x2)), some (.int (J (ior x3 (shl 1 (iand x4 31))))), some (.int (J (x4 + 1)))] [] h Q))))) :
    Ex X PG (d + 1) 81 5 [some (.ref a), some (.int (J x1)), some (.int (J x2)), some (.int (J x3)), some (.int (J x4))] [] h Q := by
  refine wpx_ok (cut := [5]) 17 d 81 5 _ _ _ _ ?_
  show (((J x2) ≤ (J x4) → Q (some (.int (J x3))) h) ∧ (¬ ((J x2) ≤ (J x4)) → hs h a = (0, 9) ∧ ∃ q5, hR h a 0 = some q5 ∧ (hs h q5).1 = 1 ∧ ix (J x4) (hs h q5).2 ∧ ((¬ (hI h q5 (Int32.toNatClampNeg (J x4))) = (J x1) → Ex X PG (d + 1) 81 5 [some (.ref a), some (.int (J x1)), some (.int (J x2)), some (.int (J x3)), some (.int ((J x4) + (J 1)))] [] h Q) ∧ (¬ (¬ (hI h q5 (Int32.toNatClampNeg (J x4))) = (J x1)) → Ex X PG (d + 1) 81 5 [some (.ref a), some (.int (J x1)), some (.int (J x2)), some (.int ((J x3) ||| ((J 1) <<< ((J x4) &&& J 31)))), some (.int ((J x4) + (J 1)))] [] h Q))))
  try simp only [aI_wAL, fI_wAL, aL_wA, aL_wF, aI_wA_ne, aI_wF_ne, fI_wA_ne, fI_wF_ne, fI_wF_nk, aL_wAL_ne, J_sameA, J_sameF, aL_same, Nat.add_left_cancel_iff, Nat.add_eq_left, Nat.left_eq_add, not_false_eq_true, Nat.reduceEqDiff, Nat.reduceAdd, J_add, J_sub, J_mul, J_neg, J_and, J_or, J_xor, J_shl, J_shr, J_div, J_i2b, J_i2l, J_l2i, J_lcm, J_max, J_min, J_nab, J_nao, rdA, rdF, rdL, wA_fold, wF_fold, wL_fold, wC_fold]
  obtain ⟨k3, w⟩ := w
  obtain ⟨k4, w⟩ := w
  refine ⟨fun c1 => ?_, fun c1 => ?_⟩
  · have t2 : x2 ≤ x4 := ((Jle k4 k3).mp c1)
    replace w := w.1 t2
    exact w
  · have t2 : ¬ x2 ≤ x4 := (fun e => c1 ((Jle k4 k3).mpr e))
    replace w := w.2 t2
    refine ⟨(world_0 K_h_0), _, (world_6 K_h_0), ?_⟩
    obtain ⟨k6, w⟩ := w
    refine ⟨congrArg Prod.fst (world_1 K_h_0), ixs (world_1 K_h_0) k6 (by decide), ?_⟩
    obtain ⟨k9, w⟩ := w
    refine ⟨fun c7 => ?_, fun c7 => ?_⟩
    · have t8 : ¬ aI h (a + 1) x4 = x1 := (fun e => c7 ((Jeq (rg_toInt _) k9).mpr e))
      replace w := w.1 t8
      exact w
    · have t8 : aI h (a + 1) x4 = x1 := ((Jeq (rg_toInt _) k9).mp (Classical.byContradiction c7))
      replace w := w.2 t8
      exact w
theorem m81 {X : Cst} {d : Nat} {a : Nat} {r : Int} {S : Int → Int} {h : AH} {Q : Post} (C : Lay h) (K : WorldAt h a) (hd : 1 ≤ d) (P : WorldRep h a S) (W : WF 999 S) (hr : -2147483648 ≤ r ∧ r < 2147483648) (k : Q (some (.int (J (pIn S r)))) h) : Ex X PG d 81 0 [some (.ref a), some (.int (J r)), some (.int (J (S 2))), none, none] [] h Q := by
  obtain ⟨d, rfl⟩ : ∃ e, d = e + 1 := ⟨d - 1, by omega⟩
  have b := W.1
  unfold WFb at b
  have lp : ∀ (n : Nat) (i : Int), S 2 - i = n → 0 ≤ i → Ex X PG (d + 1) 81 5 [some (.ref a), some (.int (J r)), some (.int (J (S 2))), some (.int (J (bset i.toNat (pinP S r) : Nat))), some (.int (J i))] [] h Q := by
    intro n
    induction n with
    | zero =>
      intro i h1 h2
      refine r81_5 C K ⟨by omega, by omega, fun _ => ?_, fun c => absurd (by omega) c⟩
      rw [bset_ext (m := 4) (by omega) (fun k h1 h2 z => by have := z.1; omega)]
      exact k
    | succ n ih =>
      intro i h1 h2
      have e : (i + 1).toNat = i.toNat + 1 := by omega
      have ei : (i.toNat : Int) = i := by omega
      have bl := bset_lt (pinP S r) i.toNat
      have bp : (2 : Nat) ^ i.toNat ≤ 2 ^ 4 := Nat.pow_le_pow_right (by decide) (by omega)
      have pr := (P.1 i h2 (by omega)).1
      have := ih (i + 1) (by omega) (by omega)
      refine r81_5 C K ?_
      rw [pr]
      refine ⟨by omega, by omega, fun c => absurd c (by omega), fun _ => ⟨by omega, hr, fun c2 => ?_, fun c2 => ?_⟩⟩
      · have np : ¬ pinP S r i.toNat := fun z => c2 (by have := z.2; rw [ei] at this; exact this)
        rw [e, ← bset_no np] at this
        exact this
      · have np : pinP S r i.toNat := ⟨by omega, by rw [ei]; exact c2⟩
        rw [e, ← bset_or np] at this
        rw [shl_1 (by omega), ior_nat (by omega) (by omega)]
        exact this
  exact r81_0 C K (lp (S 2).toNat 0 (by omega) (by omega))
-- OutwardDoors$World.total([I)I at 0
set_option maxRecDepth 20000 in
set_option maxHeartbeats 4000000 in
theorem r164_0 {X : Cst} {d : Nat} {a : Nat} {c : Nat} {h : AH} {Q : Post} (C_h : Lay h) (K_h_0 : WorldAt h a) (S_h : hs h c = (1, 4))
  (w : Ex X PG (d + 1) 164 4 [some (.ref a), some (.ref c), some (.int (J 0)), some (.int (J 0))] [] h Q) :
    Ex X PG (d + 1) 164 0 [some (.ref a), some (.ref c), none, none] [] h Q := by
  refine wpx_ok (cut := [4]) 4 d 164 0 _ _ _ _ ?_
  show Ex X PG (d + 1) 164 4 [some (.ref a), some (.ref c), some (.int (J 0)), some (.int (J 0))] [] h Q
  try simp only [aI_wAL, fI_wAL, aL_wA, aL_wF, aI_wA_ne, aI_wF_ne, fI_wA_ne, fI_wF_ne, fI_wF_nk, aL_wAL_ne, J_sameA, J_sameF, aL_same, Nat.add_left_cancel_iff, Nat.add_eq_left, Nat.left_eq_add, not_false_eq_true, Nat.reduceEqDiff, Nat.reduceAdd, J_add, J_sub, J_mul, J_neg, J_and, J_or, J_xor, J_shl, J_shr, J_div, J_i2b, J_i2l, J_l2i, J_lcm, J_max, J_min, J_nab, J_nao, rdA, rdF, rdL, wA_fold, wF_fold, wL_fold, wC_fold]
  exact w
-- OutwardDoors$World.total([I)I at 4
set_option maxRecDepth 20000 in
set_option maxHeartbeats 4000000 in
theorem r164_4 {X : Cst} {d : Nat} {a : Nat} {c : Nat} {x2 : Int} {x3 : Int} {h : AH} {Q : Post} (C_h : Lay h) (K_h_0 : WorldAt h a) (S_h : hs h c = (1, 4))
  (w : (-2147483648 ≤ x3 ∧ x3 < 2147483648) ∧ ((4 ≤ x3 → Q (some (.int (J x2))) h) ∧ (¬ 4 ≤ x3 → (0 ≤ x3 ∧ x3 < 4) ∧ Ex X PG (d + 1) 164 4 [some (.ref a), some (.ref c), some (.int (J (x2 + (aI h c x3)))), some (.int (J (x3 + 1)))] [] h Q))) :
    Ex X PG (d + 1) 164 4 [some (.ref a), some (.ref c), some (.int (J x2)), some (.int (J x3))] [] h Q := by
  refine wpx_ok (cut := [4]) 12 d 164 4 _ _ _ _ ?_
  show 1 ≤ (hs h c).1 ∧ (((nI (hs h c).2) ≤ (J x3) → Q (some (.int (J x2))) h) ∧ (¬ ((nI (hs h c).2) ≤ (J x3)) → (hs h c).1 = 1 ∧ ix (J x3) (hs h c).2 ∧ Ex X PG (d + 1) 164 4 [some (.ref a), some (.ref c), some (.int ((J x2) + (hI h c (Int32.toNatClampNeg (J x3))))), some (.int ((J x3) + (J 1)))] [] h Q))
  try simp only [aI_wAL, fI_wAL, aL_wA, aL_wF, aI_wA_ne, aI_wF_ne, fI_wA_ne, fI_wF_ne, fI_wF_nk, aL_wAL_ne, J_sameA, J_sameF, aL_same, Nat.add_left_cancel_iff, Nat.add_eq_left, Nat.left_eq_add, not_false_eq_true, Nat.reduceEqDiff, Nat.reduceAdd, J_add, J_sub, J_mul, J_neg, J_and, J_or, J_xor, J_shl, J_shr, J_div, J_i2b, J_i2l, J_l2i, J_lcm, J_max, J_min, J_nab, J_nao, rdA, rdF, rdL, wA_fold, wF_fold, wL_fold, wC_fold]
  refine ⟨by rw [S_h]; show 1 ≤ 1; decide, ?_⟩
  rw [show nI (hs h c).2 = J 4 from by rw [S_h]; exact rfl]
  try simp only [aI_wAL, fI_wAL, aL_wA, aL_wF, aI_wA_ne, aI_wF_ne, fI_wA_ne, fI_wF_ne, fI_wF_nk, aL_wAL_ne, J_sameA, J_sameF, aL_same, Nat.add_left_cancel_iff, Nat.add_eq_left, Nat.left_eq_add, not_false_eq_true, Nat.reduceEqDiff, Nat.reduceAdd, J_add, J_sub, J_mul, J_neg, J_and, J_or, J_xor, J_shl, J_shr, J_div, J_i2b, J_i2l, J_l2i, J_lcm, J_max, J_min, J_nab, J_nao, rdA, rdF, rdL, wA_fold, wF_fold, wL_fold, wC_fold]
  obtain ⟨k3, w⟩ := w
  refine ⟨fun c1 => ?_, fun c1 => ?_⟩
  · have t2 : 4 ≤ x3 := ((Jle (by decide) k3).mp c1)
    replace w := w.1 t2
    exact w
  · have t2 : ¬ 4 ≤ x3 := (fun e => c1 ((Jle (by decide) k3).mpr e))
    replace w := w.2 t2
    obtain ⟨k4, w⟩ := w
    refine ⟨congrArg Prod.fst S_h, ixs S_h k4 (by decide), ?_⟩
    exact w
theorem m164 {X : Cst} {d : Nat} {a c : Nat} {h : AH} {Q : Post} (C : Lay h) (K : WorldAt h a) (Sh : hs h c = (1, 4)) (hd : 1 ≤ d) (k : Q (some (.int (J (sumN 4 (aI h c))))) h) : Ex X PG d 164 0 [some (.ref a), some (.ref c), none, none] [] h Q := by
  obtain ⟨d, rfl⟩ : ∃ e, d = e + 1 := ⟨d - 1, by omega⟩
  have lp : ∀ (n : Nat) (i : Int), 4 - i = n → 0 ≤ i → Ex X PG (d + 1) 164 4 [some (.ref a), some (.ref c), some (.int (J (sumN i.toNat (aI h c)))), some (.int (J i))] [] h Q := by
    intro n
    induction n with
    | zero =>
      intro i h1 h2
      refine r164_4 C K Sh ⟨by omega, fun _ => ?_, fun c => absurd (by omega) c⟩
      rw [show i.toNat = 4 by omega]; exact k
    | succ n ih =>
      intro i h1 h2
      have := ih (i + 1) (by omega) (by omega)
      rw [show (i + 1).toNat = i.toNat + 1 by omega] at this
      unfold sumN at this
      rw [show (i.toNat : Int) = i by omega] at this
      exact r164_4 C K Sh ⟨by omega, fun c => absurd c (by omega), fun _ => ⟨by omega, this⟩⟩
  exact r164_0 C K Sh (lp 4 0 (by omega) (by omega))
