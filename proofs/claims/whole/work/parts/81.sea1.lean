/-! THE CLASS: searches, the smallest. -/
/-- a search's plan, marks, queue -/
def SeaAt (h : AH) (pl mk qu ln : Nat) : Prop := hR h 247 0 = some pl ∧ hR h 247 4 = some mk ∧ hR h 247 5 = some qu ∧ hs h mk = (1, ln) ∧ hs h qu = (1, ln) ∧ ln ≤ 32768
theorem SeaAt_SH {h h' : AH} {pl mk qu ln : Nat} (s : SH h h') (B : SeaAt h pl mk qu ln) : SeaAt h' pl mk qu ln := by
  unfold SeaAt
  rw [s.hs, s.2]
  exact B
-- OutwardDoors$Passings.roomOf(II)I at 0
set_option maxRecDepth 20000 in
set_option maxHeartbeats 4000000 in
theorem r122_0 {X : Cst} {d : Nat} {x0 : Int} {x1 : Int} {h : AH} {Q : Post} (C_h : Lay h)
  (w : Q (some (.int (J (iand (shr x0 (iand (3 * x1) 31)) 7)))) h) :
    Ex X PG (d + 1) 122 0 [some (.int (J x0)), some (.int (J x1))] [] h Q := by
  refine wpx_ok (cut := []) 8 d 122 0 _ _ _ _ ?_
  show Q (some (.int (((J x0) >>> (((J 3) * (J x1)) &&& J 31)) &&& (J 7)))) h
  try simp only [aI_wAL, fI_wAL, aL_wA, aL_wF, aI_wA_ne, aI_wF_ne, fI_wA_ne, fI_wF_ne, fI_wF_nk, aL_wAL_ne, J_sameA, J_sameF, aL_same, Nat.add_left_cancel_iff, Nat.add_eq_left, Nat.left_eq_add, not_false_eq_true, Nat.reduceEqDiff, Nat.reduceAdd, J_add, J_sub, J_mul, J_neg, J_and, J_or, J_xor, J_shl, J_shr, J_div, J_i2b, J_i2l, J_l2i, J_lcm, J_max, J_min, J_nab, J_nao, rdA, rdF, rdL, wA_fold, wF_fold, wL_fold, wC_fold]
  exact w
theorem m122 {X : Cst} {d : Nat} {s p : Int} {h : AH} {Q : Post} (C : Lay h) (hd : 1 ≤ d) (hs' : 0 ≤ s ∧ s < 2147483648) (hp : 0 ≤ p ∧ p < 5) (k : Q (some (.int (J (dgt 8 s p)))) h) : Ex X PG d 122 0 [some (.int (J s)), some (.int (J p))] [] h Q := by
  obtain ⟨d, rfl⟩ : ∃ e, d = e + 1 := ⟨d - 1, by omega⟩
  refine r122_0 C ?_
  rw [rmo hs' hp]; exact k
-- OutwardDoors$Passings.moved(III)I at 0
set_option maxRecDepth 20000 in
set_option maxHeartbeats 4000000 in
theorem r124_0 {X : Cst} {d : Nat} {x0 : Int} {x1 : Int} {x2 : Int} {h : AH} {Q : Post} (C_h : Lay h)
  (w : Q (some (.int (J (ior (iand x0 (ixr (shl 7 (iand (3 * x1) 31)) (-1))) (shl x2 (iand (3 * x1) 31)))))) h) :
    Ex X PG (d + 1) 124 0 [some (.int (J x0)), some (.int (J x1)), some (.int (J x2))] [] h Q := by
  refine wpx_ok (cut := []) 16 d 124 0 _ _ _ _ ?_
  show Q (some (.int (((J x0) &&& (((J 7) <<< (((J 3) * (J x1)) &&& J 31)) ^^^ (J (-1)))) ||| ((J x2) <<< (((J 3) * (J x1)) &&& J 31))))) h
  try simp only [aI_wAL, fI_wAL, aL_wA, aL_wF, aI_wA_ne, aI_wF_ne, fI_wA_ne, fI_wF_ne, fI_wF_nk, aL_wAL_ne, J_sameA, J_sameF, aL_same, Nat.add_left_cancel_iff, Nat.add_eq_left, Nat.left_eq_add, not_false_eq_true, Nat.reduceEqDiff, Nat.reduceAdd, J_add, J_sub, J_mul, J_neg, J_and, J_or, J_xor, J_shl, J_shr, J_div, J_i2b, J_i2l, J_l2i, J_lcm, J_max, J_min, J_nab, J_nao, rdA, rdF, rdL, wA_fold, wF_fold, wL_fold, wC_fold]
  exact w
theorem m124 {X : Cst} {d : Nat} {s p r : Int} {h : AH} {Q : Post} (C : Lay h) (hd : 1 ≤ d) (hs' : 0 ≤ s ∧ s < 32768) (hp : 0 ≤ p ∧ p < 5) (hr : 0 ≤ r ∧ r < 8) (k : Q (some (.int (J (mvd 8 s p r)))) h) : Ex X PG d 124 0 [some (.int (J s)), some (.int (J p)), some (.int (J r))] [] h Q := by
  obtain ⟨d, rfl⟩ : ∃ e, d = e + 1 := ⟨d - 1, by omega⟩
  refine r124_0 C ?_
  rw [mvo hs' hp hr]; exact k
-- OutwardDoors$Passings.labelOf(III)I at 0
set_option maxRecDepth 20000 in
set_option maxHeartbeats 4000000 in
theorem r125_0 {X : Cst} {d : Nat} {x0 : Int} {x1 : Int} {x2 : Int} {h : AH} {Q : Post} (C_h : Lay h)
  (w : Q (some (.int (J (ior (ior x0 (shl x1 (iand 3 31))) (shl (x2 + 1) (iand 7 31)))))) h) :
    Ex X PG (d + 1) 125 0 [some (.int (J x0)), some (.int (J x1)), some (.int (J x2))] [] h Q := by
  refine wpx_ok (cut := []) 12 d 125 0 _ _ _ _ ?_
  show Q (some (.int (((J x0) ||| ((J x1) <<< ((J 3) &&& J 31))) ||| (((J x2) + (J 1)) <<< ((J 7) &&& J 31))))) h
  try simp only [aI_wAL, fI_wAL, aL_wA, aL_wF, aI_wA_ne, aI_wF_ne, fI_wA_ne, fI_wF_ne, fI_wF_nk, aL_wAL_ne, J_sameA, J_sameF, aL_same, Nat.add_left_cancel_iff, Nat.add_eq_left, Nat.left_eq_add, not_false_eq_true, Nat.reduceEqDiff, Nat.reduceAdd, J_add, J_sub, J_mul, J_neg, J_and, J_or, J_xor, J_shl, J_shr, J_div, J_i2b, J_i2l, J_l2i, J_lcm, J_max, J_min, J_nab, J_nao, rdA, rdF, rdL, wA_fold, wF_fold, wL_fold, wC_fold]
  exact w
theorem m125 {X : Cst} {d : Nat} {p e q : Int} {h : AH} {Q : Post} (C : Lay h) (hd : 1 ≤ d) (hp : 0 ≤ p ∧ p < 8) (he : 0 ≤ e ∧ e < 16) (hq : -1 ≤ q ∧ q < 7) (k : Q (some (.int (J (lbo p e q)))) h) : Ex X PG d 125 0 [some (.int (J p)), some (.int (J e)), some (.int (J q))] [] h Q := by
  obtain ⟨d, rfl⟩ : ∃ e, d = e + 1 := ⟨d - 1, by omega⟩
  refine r125_0 C ?_
  rw [lbo_e hp he hq]; exact k
-- OutwardDoors$World.packed(I)I at 0
set_option maxRecDepth 20000 in
set_option maxHeartbeats 4000000 in
theorem r117_0 {X : Cst} {d : Nat} {a : Nat} {x1 : Int} {h : AH} {Q : Post} (C_h : Lay h) (K_h_0 : WorldAt h a)
  (w : Ex X PG (d + 1) 117 4 [some (.ref a), some (.int (J x1)), some (.int (J 0)), some (.int (J 0))] [] h Q) :
    Ex X PG (d + 1) 117 0 [some (.ref a), some (.int (J x1)), none, none] [] h Q := by
  refine wpx_ok (cut := [4]) 4 d 117 0 _ _ _ _ ?_
  show Ex X PG (d + 1) 117 4 [some (.ref a), some (.int (J x1)), some (.int (J 0)), some (.int (J 0))] [] h Q
  try simp only [aI_wAL, fI_wAL, aL_wA, aL_wF, aI_wA_ne, aI_wF_ne, fI_wA_ne, fI_wF_ne, fI_wF_nk, aL_wAL_ne, J_sameA, J_sameF, aL_same, Nat.add_left_cancel_iff, Nat.add_eq_left, Nat.left_eq_add, not_false_eq_true, Nat.reduceEqDiff, Nat.reduceAdd, J_add, J_sub, J_mul, J_neg, J_and, J_or, J_xor, J_shl, J_shr, J_div, J_i2b, J_i2l, J_l2i, J_lcm, J_max, J_min, J_nab, J_nao, rdA, rdF, rdL, wA_fold, wF_fold, wL_fold, wC_fold]
  exact w
-- OutwardDoors$World.packed(I)I at 4
set_option maxRecDepth 20000 in
set_option maxHeartbeats 4000000 in
theorem r117_4 {X : Cst} {d : Nat} {a : Nat} {x1 : Int} {x2 : Int} {x3 : Int} {h : AH} {Q : Post} (C_h : Lay h) (K_h_0 : WorldAt h a)
  (w : (-2147483648 ≤ x3 ∧ x3 < 2147483648) ∧ (-2147483648 ≤ x1 ∧ x1 < 2147483648) ∧ ((x1 ≤ x3 → Q (some (.int (J x2))) h) ∧ (¬ x1 ≤ x3 → (0 ≤ x3 ∧ x3 < 4) ∧ Ex X PG (d + 1) 117 4 [some (.ref a), some (.int (J x1)), some (.int (J (ior x2 (shl (aI h (a + 1) x3) (iand (3 * x3) 31))))), some (.int (J (x3 + 1)))] [] h Q))) :
    Ex X PG (d + 1) 117 4 [some (.ref a), some (.int (J x1)), some (.int (J x2)), some (.int (J x3))] [] h Q := by
  refine wpx_ok (cut := [4]) 16 d 117 4 _ _ _ _ ?_
  show (((J x1) ≤ (J x3) → Q (some (.int (J x2))) h) ∧ (¬ ((J x1) ≤ (J x3)) → hs h a = (0, 9) ∧ ∃ q5, hR h a 0 = some q5 ∧ (hs h q5).1 = 1 ∧ ix (J x3) (hs h q5).2 ∧ Ex X PG (d + 1) 117 4 [some (.ref a), some (.int (J x1)), some (.int ((J x2) ||| ((hI h q5 (Int32.toNatClampNeg (J x3))) <<< (((J 3) * (J x3)) &&& J 31)))), some (.int ((J x3) + (J 1)))] [] h Q))
  try simp only [aI_wAL, fI_wAL, aL_wA, aL_wF, aI_wA_ne, aI_wF_ne, fI_wA_ne, fI_wF_ne, fI_wF_nk, aL_wAL_ne, J_sameA, J_sameF, aL_same, Nat.add_left_cancel_iff, Nat.add_eq_left, Nat.left_eq_add, not_false_eq_true, Nat.reduceEqDiff, Nat.reduceAdd, J_add, J_sub, J_mul, J_neg, J_and, J_or, J_xor, J_shl, J_shr, J_div, J_i2b, J_i2l, J_l2i, J_lcm, J_max, J_min, J_nab, J_nao, rdA, rdF, rdL, wA_fold, wF_fold, wL_fold, wC_fold]
  obtain ⟨k3, w⟩ := w
  obtain ⟨k4, w⟩ := w
  refine ⟨fun c1 => ?_, fun c1 => ?_⟩
  · have t2 : x1 ≤ x3 := ((Jle k4 k3).mp c1)
    replace w := w.1 t2
    exact w
  · have t2 : ¬ x1 ≤ x3 := (fun e => c1 ((Jle k4 k3).mpr e))
    replace w := w.2 t2
    refine ⟨(world_0 K_h_0), _, (world_6 K_h_0), ?_⟩
    obtain ⟨k6, w⟩ := w
    refine ⟨congrArg Prod.fst (world_1 K_h_0), ixs (world_1 K_h_0) k6 (by decide), ?_⟩
    exact w
theorem ior_pk {s r p : Int} (hp : 0 ≤ p ∧ p < 5) (hs' : 0 ≤ s ∧ s < 8 ^ p.toNat) (hr : 0 ≤ r ∧ r < 8) : ior s (shl r (iand (3 * p) 31)) = s + r * 8 ^ p.toNat := by
  rw [shl_p (by omega) hp]
  obtain ⟨a, rfl⟩ := Int.eq_ofNat_of_zero_le hs'.1
  obtain ⟨b, rfl⟩ := Int.eq_ofNat_of_zero_le hr.1
  have key : ∀ k : Nat, a < 2 ^ k → (2 ^ k : Nat) ≤ 4096 → ior (a : Int) ((2 ^ k * b : Nat) : Int) = ((2 ^ k * b + a : Nat) : Int) := by
    intro k h1 h2
    have : 2 ^ k * b ≤ 2 ^ k * 7 := Nat.mul_le_mul_left _ (by omega)
    rw [ior_nat (by omega) (by omega), or_lo h1]
  have : p = 0 ∨ p = 1 ∨ p = 2 ∨ p = 3 ∨ p = 4 := by omega
  rcases this with rfl | rfl | rfl | rfl | rfl
  · have := key 0 (by have : (a : Int) < 1 := hs'.2; omega) (by decide)
    show ior (a : Int) ((b : Int) * 1) = (a : Int) + (b : Int) * 1
    rw [show ((2 ^ 0 * b : Nat) : Int) = (b : Int) * 1 by omega] at this
    rw [this]; omega
  · have := key 3 (by have : (a : Int) < 8 := hs'.2; omega) (by decide)
    show ior (a : Int) ((b : Int) * 8) = (a : Int) + (b : Int) * 8
    rw [show ((2 ^ 3 * b : Nat) : Int) = (b : Int) * 8 by omega] at this
    rw [this]; omega
  · have := key 6 (by have : (a : Int) < 64 := hs'.2; omega) (by decide)
    show ior (a : Int) ((b : Int) * 64) = (a : Int) + (b : Int) * 64
    rw [show ((2 ^ 6 * b : Nat) : Int) = (b : Int) * 64 by omega] at this
    rw [this]; omega
  · have := key 9 (by have : (a : Int) < 512 := hs'.2; omega) (by decide)
    show ior (a : Int) ((b : Int) * 512) = (a : Int) + (b : Int) * 512
    rw [show ((2 ^ 9 * b : Nat) : Int) = (b : Int) * 512 by omega] at this
    rw [this]; omega
  · have := key 12 (by have : (a : Int) < 4096 := hs'.2; omega) (by decide)
    show ior (a : Int) ((b : Int) * 4096) = (a : Int) + (b : Int) * 4096
    rw [show ((2 ^ 12 * b : Nat) : Int) = (b : Int) * 4096 by omega] at this
    rw [this]; omega
theorem m117 {X : Cst} {d a : Nat} {N n : Int} {S : Int → Int} {h : AH} {Q : Post} (C : Lay h) (K : WorldAt h a) (hd : 1 ≤ d) (R : WorldRep h a S) (W : WF N S) (en : n = S 2) (k : Q (some (.int (J (enc 8 (S 2).toNat (nowF S))))) h) : Ex X PG d 117 0 [some (.ref a), some (.int (J n)), none, none] [] h Q := by
  obtain ⟨d, rfl⟩ : ∃ e, d = e + 1 := ⟨d - 1, by omega⟩
  subst en
  have b := W.1
  unfold WFb at b
  have kn := (nowF_K W).up b.2.1
  have lp : ∀ (z i : Nat), S 2 - i = z → Ex X PG (d + 1) 117 4 [some (.ref a), some (.int (J (S 2))), some (.int (J (enc 8 i (nowF S)))), some (.int (J (i : Int)))] [] h Q := by
    intro z
    induction z with
    | zero =>
      intro i e
      refine r117_4 C K ⟨by omega, by omega, fun _ => ?_, fun y => absurd (by omega) y⟩
      rw [show (S 2).toNat = i by omega] at k; exact k
    | succ z ih =>
      intro i e
      have r := (R.1 i (by omega) (by omega)).1
      have rr := W.2.1 i (by omega) (by omega)
      have eb := enc_b (b := 8) (by decide) i (nowF S) (fun p p0 p1 => kn.1 p p0 (by omega))
      refine r117_4 C K ⟨by omega, by omega, fun y => absurd y (by omega), fun _ => ⟨by omega, ?_⟩⟩
      have := ih (i + 1) (by omega)
      rw [enc_top] at this
      have ef : nowF S i = pS S i 0 := by unfold nowF; rw [if_pos (by omega)]
      rw [ef] at this
      have io := ior_pk (s := enc 8 i (nowF S)) (r := pS S i 0) (p := i) (by omega) (by rw [show ((i : Int)).toNat = i by omega]; exact eb) (by omega)
      rw [show ((i : Int)).toNat = i by omega] at io
      rw [r, io]
      exact this
  refine r117_0 C K ?_
  exact lp (S 2).toNat 0 (by omega)
-- OutwardDoors$Search.keep(II)V at 0
set_option maxRecDepth 20000 in
set_option maxHeartbeats 4000000 in
theorem r119_0 {X : Cst} {d : Nat} {x1 : Int} {x2 : Int} {pl : Nat} {h : AH} {Q : Post} (C_h : Lay h) (K_h_0 : PlanAt h pl) {mk qu ln : Nat} (B_h : SeaAt h pl mk qu ln) (ap : (mk = 248 ∨ 281 ≤ mk) ∧ (qu = 249 ∨ 281 ≤ qu) ∧ ¬ mk = qu ∧ (mk < pl ∨ pl + 10 < mk) ∧ (qu < pl ∨ pl + 10 < qu))
  (w : (-2147483648 ≤ x1 ∧ x1 < 2147483648) ∧ ((x1 < 0 → Q none h) ∧ (¬ x1 < 0 → (-2147483648 ≤ (ln : Int) ∧ (ln : Int) < 2147483648) ∧ (((ln : Int) ≤ x1 → Q none h) ∧ (¬ (ln : Int) ≤ x1 → (0 ≤ x1 ∧ x1 < ln) ∧ ((¬ aI h mk x1 = 0 → Q none h) ∧ (aI h mk x1 = 0 → (((ln : Int) ≤ fI h 247 6 → Q none h) ∧ (¬ (ln : Int) ≤ fI h 247 6 → (0 ≤ fI h 247 6 ∧ fI h 247 6 < ln) ∧ Q none (wF (wA (wA h mk x1 x2) qu (fI h 247 6) x1) 247 6 ((fI h 247 6) + 1))))))))))) :
    Ex X PG (d + 1) 119 0 [some (.ref 247), some (.int (J x1)), some (.int (J x2))] [] h Q := by
  refine wpx_ok (cut := []) 36 d 119 0 _ _ _ _ ?_
  show (((J x1) < (J 0) → Q none h) ∧ (¬ ((J x1) < (J 0)) → hs h 247 = (0, 7) ∧ ∃ q4, hR h 247 4 = some q4 ∧ 1 ≤ (hs h q4).1 ∧ (((nI (hs h q4).2) ≤ (J x1) → Q none h) ∧ (¬ ((nI (hs h q4).2) ≤ (J x1)) → hs h 247 = (0, 7) ∧ ∃ q8, hR h 247 4 = some q8 ∧ (hs h q8).1 = 1 ∧ ix (J x1) (hs h q8).2 ∧ ((¬ (hI h q8 (Int32.toNatClampNeg (J x1))) = (J 0) → Q none h) ∧ (¬ (¬ (hI h q8 (Int32.toNatClampNeg (J x1))) = (J 0)) → hs h 247 = (0, 7) ∧ hs h 247 = (0, 7) ∧ ∃ q12, hR h 247 5 = some q12 ∧ 1 ≤ (hs h q12).1 ∧ (((nI (hs h q12).2) ≤ (hF h 247 6) → Q none h) ∧ (¬ ((nI (hs h q12).2) ≤ (hF h 247 6)) → hs h 247 = (0, 7) ∧ ∃ q15, hR h 247 4 = some q15 ∧ (hs h q15).1 = 1 ∧ ix (J x1) (hs h q15).2 ∧ hs (wI h q15 (Int32.toNatClampNeg (J x1)) (J x2)) 247 = (0, 7) ∧ ∃ q16, hR (wI h q15 (Int32.toNatClampNeg (J x1)) (J x2)) 247 5 = some q16 ∧ hs (wI h q15 (Int32.toNatClampNeg (J x1)) (J x2)) 247 = (0, 7) ∧ (hs (wI h q15 (Int32.toNatClampNeg (J x1)) (J x2)) q16).1 = 1 ∧ ix (hF (wI h q15 (Int32.toNatClampNeg (J x1)) (J x2)) 247 6) (hs (wI h q15 (Int32.toNatClampNeg (J x1)) (J x2)) q16).2 ∧ hs (wI (wI h q15 (Int32.toNatClampNeg (J x1)) (J x2)) q16 (Int32.toNatClampNeg (hF (wI h q15 (Int32.toNatClampNeg (J x1)) (J x2)) 247 6)) (J x1)) 247 = (0, 7) ∧ hs (wI (wI h q15 (Int32.toNatClampNeg (J x1)) (J x2)) q16 (Int32.toNatClampNeg (hF (wI h q15 (Int32.toNatClampNeg (J x1)) (J x2)) 247 6)) (J x1)) 247 = (0, 7) ∧ Q none (wG (wI (wI h q15 (Int32.toNatClampNeg (J x1)) (J x2)) q16 (Int32.toNatClampNeg (hF (wI h q15 (Int32.toNatClampNeg (J x1)) (J x2)) 247 6)) (J x1)) 247 6 ((hF (wI (wI h q15 (Int32.toNatClampNeg (J x1)) (J x2)) q16 (Int32.toNatClampNeg (hF (wI h q15 (Int32.toNatClampNeg (J x1)) (J x2)) 247 6)) (J x1)) 247 6) + (J 1)))))))))))
  have ne_0 : ¬ 247 = mk := by omega
  have ne_1 : ¬ 247 = qu := by omega
  try simp only [aI_wAL, fI_wAL, aL_wA, aL_wF, aI_wA_ne, aI_wF_ne, fI_wA_ne, fI_wF_ne, fI_wF_nk, aL_wAL_ne, J_sameA, J_sameF, aL_same, Nat.add_left_cancel_iff, Nat.add_eq_left, Nat.left_eq_add, not_false_eq_true, Nat.reduceEqDiff, ne_0, ne_1, Nat.reduceAdd, J_add, J_sub, J_mul, J_neg, J_and, J_or, J_xor, J_shl, J_shr, J_div, J_i2b, J_i2l, J_l2i, J_lcm, J_max, J_min, J_nab, J_nao, rdA, rdF, rdL, wA_fold, wF_fold, wL_fold, wC_fold]
  obtain ⟨k3, w⟩ := w
  refine ⟨fun c1 => ?_, fun c1 => ?_⟩
  · have t2 : x1 < 0 := ((Jlt k3 (by decide)).mp c1)
    replace w := w.1 t2
    exact w
  · have t2 : ¬ x1 < 0 := (fun e => c1 ((Jlt k3 (by decide)).mpr e))
    replace w := w.2 t2
    refine ⟨(ls247 C_h), _, B_h.2.1, ?_⟩
    try simp only [aI_wAL, fI_wAL, aL_wA, aL_wF, aI_wA_ne, aI_wF_ne, fI_wA_ne, fI_wF_ne, fI_wF_nk, aL_wAL_ne, J_sameA, J_sameF, aL_same, Nat.add_left_cancel_iff, Nat.add_eq_left, Nat.left_eq_add, not_false_eq_true, Nat.reduceEqDiff, ne_0, ne_1, Nat.reduceAdd, J_add, J_sub, J_mul, J_neg, J_and, J_or, J_xor, J_shl, J_shr, J_div, J_i2b, J_i2l, J_l2i, J_lcm, J_max, J_min, J_nab, J_nao, rdA, rdF, rdL, wA_fold, wF_fold, wL_fold, wC_fold]
    refine ⟨by rw [B_h.2.2.2.1]; show 1 ≤ 1; decide, ?_⟩
    rw [show nI (hs h mk).2 = J (ln : Int) from by rw [B_h.2.2.2.1]; exact J_nI _]
    try simp only [aI_wAL, fI_wAL, aL_wA, aL_wF, aI_wA_ne, aI_wF_ne, fI_wA_ne, fI_wF_ne, fI_wF_nk, aL_wAL_ne, J_sameA, J_sameF, aL_same, Nat.add_left_cancel_iff, Nat.add_eq_left, Nat.left_eq_add, not_false_eq_true, Nat.reduceEqDiff, ne_0, ne_1, Nat.reduceAdd, J_add, J_sub, J_mul, J_neg, J_and, J_or, J_xor, J_shl, J_shr, J_div, J_i2b, J_i2l, J_l2i, J_lcm, J_max, J_min, J_nab, J_nao, rdA, rdF, rdL, wA_fold, wF_fold, wL_fold, wC_fold]
    obtain ⟨k7, w⟩ := w
    refine ⟨fun c5 => ?_, fun c5 => ?_⟩
    · have t6 : (ln : Int) ≤ x1 := ((Jle k7 k3).mp c5)
      replace w := w.1 t6
      exact w
    · have t6 : ¬ (ln : Int) ≤ x1 := (fun e => c5 ((Jle k7 k3).mpr e))
      replace w := w.2 t6
      refine ⟨(ls247 C_h), _, B_h.2.1, ?_⟩
      try simp only [aI_wAL, fI_wAL, aL_wA, aL_wF, aI_wA_ne, aI_wF_ne, fI_wA_ne, fI_wF_ne, fI_wF_nk, aL_wAL_ne, J_sameA, J_sameF, aL_same, Nat.add_left_cancel_iff, Nat.add_eq_left, Nat.left_eq_add, not_false_eq_true, Nat.reduceEqDiff, ne_0, ne_1, Nat.reduceAdd, J_add, J_sub, J_mul, J_neg, J_and, J_or, J_xor, J_shl, J_shr, J_div, J_i2b, J_i2l, J_l2i, J_lcm, J_max, J_min, J_nab, J_nao, rdA, rdF, rdL, wA_fold, wF_fold, wL_fold, wC_fold]
      obtain ⟨k9, w⟩ := w
      refine ⟨congrArg Prod.fst B_h.2.2.2.1, ixs B_h.2.2.2.1 k9 (Nat.le_trans B_h.2.2.2.2.2 (by decide)), ?_⟩
      refine ⟨fun c10 => ?_, fun c10 => ?_⟩
      · have t11 : ¬ aI h mk x1 = 0 := (fun e => c10 ((Jeq (rg_toInt _) (by decide)).mpr e))
        replace w := w.1 t11
        exact w
      · have t11 : aI h mk x1 = 0 := ((Jeq (rg_toInt _) (by decide)).mp (Classical.byContradiction c10))
        replace w := w.2 t11
        refine ⟨(ls247 C_h), ?_⟩
        refine ⟨(ls247 C_h), _, B_h.2.2.1, ?_⟩
        try simp only [aI_wAL, fI_wAL, aL_wA, aL_wF, aI_wA_ne, aI_wF_ne, fI_wA_ne, fI_wF_ne, fI_wF_nk, aL_wAL_ne, J_sameA, J_sameF, aL_same, Nat.add_left_cancel_iff, Nat.add_eq_left, Nat.left_eq_add, not_false_eq_true, Nat.reduceEqDiff, ne_0, ne_1, Nat.reduceAdd, J_add, J_sub, J_mul, J_neg, J_and, J_or, J_xor, J_shl, J_shr, J_div, J_i2b, J_i2l, J_l2i, J_lcm, J_max, J_min, J_nab, J_nao, rdA, rdF, rdL, wA_fold, wF_fold, wL_fold, wC_fold]
        refine ⟨by rw [B_h.2.2.2.2.1]; show 1 ≤ 1; decide, ?_⟩
        rw [show nI (hs h qu).2 = J (ln : Int) from by rw [B_h.2.2.2.2.1]; exact J_nI _]
        try simp only [aI_wAL, fI_wAL, aL_wA, aL_wF, aI_wA_ne, aI_wF_ne, fI_wA_ne, fI_wF_ne, fI_wF_nk, aL_wAL_ne, J_sameA, J_sameF, aL_same, Nat.add_left_cancel_iff, Nat.add_eq_left, Nat.left_eq_add, not_false_eq_true, Nat.reduceEqDiff, ne_0, ne_1, Nat.reduceAdd, J_add, J_sub, J_mul, J_neg, J_and, J_or, J_xor, J_shl, J_shr, J_div, J_i2b, J_i2l, J_l2i, J_lcm, J_max, J_min, J_nab, J_nao, rdA, rdF, rdL, wA_fold, wF_fold, wL_fold, wC_fold]
        refine ⟨fun c13 => ?_, fun c13 => ?_⟩
        · have t14 : (ln : Int) ≤ fI h 247 6 := ((Jle k7 (rg_toInt _)).mp c13)
          replace w := w.1 t14
          exact w
        · have t14 : ¬ (ln : Int) ≤ fI h 247 6 := (fun e => c13 ((Jle k7 (rg_toInt _)).mpr e))
          replace w := w.2 t14
          refine ⟨(ls247 C_h), _, B_h.2.1, ?_⟩
          try simp only [aI_wAL, fI_wAL, aL_wA, aL_wF, aI_wA_ne, aI_wF_ne, fI_wA_ne, fI_wF_ne, fI_wF_nk, aL_wAL_ne, J_sameA, J_sameF, aL_same, Nat.add_left_cancel_iff, Nat.add_eq_left, Nat.left_eq_add, not_false_eq_true, Nat.reduceEqDiff, ne_0, ne_1, Nat.reduceAdd, J_add, J_sub, J_mul, J_neg, J_and, J_or, J_xor, J_shl, J_shr, J_div, J_i2b, J_i2l, J_l2i, J_lcm, J_max, J_min, J_nab, J_nao, rdA, rdF, rdL, wA_fold, wF_fold, wL_fold, wC_fold]
          refine ⟨congrArg Prod.fst B_h.2.2.2.1, ixs B_h.2.2.2.1 k9 (Nat.le_trans B_h.2.2.2.2.2 (by decide)), ?_⟩
          refine ⟨(ls247 C_h), _, B_h.2.2.1, ?_⟩
          try simp only [aI_wAL, fI_wAL, aL_wA, aL_wF, aI_wA_ne, aI_wF_ne, fI_wA_ne, fI_wF_ne, fI_wF_nk, aL_wAL_ne, J_sameA, J_sameF, aL_same, Nat.add_left_cancel_iff, Nat.add_eq_left, Nat.left_eq_add, not_false_eq_true, Nat.reduceEqDiff, ne_0, ne_1, Nat.reduceAdd, J_add, J_sub, J_mul, J_neg, J_and, J_or, J_xor, J_shl, J_shr, J_div, J_i2b, J_i2l, J_l2i, J_lcm, J_max, J_min, J_nab, J_nao, rdA, rdF, rdL, wA_fold, wF_fold, wL_fold, wC_fold]
          refine ⟨(ls247 C_h), ?_⟩
          obtain ⟨k17, w⟩ := w
          refine ⟨congrArg Prod.fst B_h.2.2.2.2.1, ixs B_h.2.2.2.2.1 k17 (Nat.le_trans B_h.2.2.2.2.2 (by decide)), ?_⟩
          refine ⟨(ls247 C_h), ?_⟩
          refine ⟨(ls247 C_h), ?_⟩
          exact w
