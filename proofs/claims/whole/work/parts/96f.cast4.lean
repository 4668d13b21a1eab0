/-! The reference reads a castle through. -/
set_option maxRecDepth 20000 in
theorem iand255 {x : Int} (h : -128 ≤ x ∧ x < 128) : iand x 255 = if x < 0 then x + 256 else x := by
  have a : ∀ n : Nat, n < 256 → iand ((n : Int) - 128) 255 = if (n : Int) - 128 < 0 then (n : Int) - 128 + 256 else (n : Int) - 128 := by decide +kernel
  have b := a (x + 128).toNat (by omega)
  rw [show ((x + 128).toNat : Int) - 128 = x by omega] at b
  exact b
theorem seeV_is {tp : Int → Int} {L j : Int} (B : BT tp) (h0 : 0 ≤ j) (hL : L ≤ 400) : (∀ c, 0 ≤ c → c < 128 → (seeV tp L j = c ↔ j < L ∧ tp j = c)) ∧ (seeV tp L j = -1 ↔ L ≤ j) ∧ (-1 ≤ seeV tp L j ∧ seeV tp L j < 256) := by
  unfold seeV
  by_cases c : j < L
  · rw [pI_pos c]
    have b := B j h0 (by omega)
    rw [iand255 b]
    refine ⟨fun x x0 x1 => ?_, ?_, ?_⟩
    · split <;> omega
    · split <;> omega
    · split <;> omega
  · rw [pI_neg c]
    refine ⟨fun x x0 x1 => ?_, ?_, ?_⟩ <;> omega
noncomputable def rst (tp : Int → Int) (L : Int) (m : Nat) (n : Int) (r : RS) : RS := pI (r.1 = 0) (pI (L ≤ r.2.1) (0, r.2.1, r.2.2) (pI (tp r.2.1 = 59) (rdC tp L m (nx tp L r.2.1) (n + 1) r.2.2) (fltR (1 + 8 * r.2.1)))) (fltR r.1)
theorem rdC_s (tp : Int → Int) (L : Int) (m : Nat) (j n : Int) (R : Int → Int) : rdC tp L (m + 1) j n R = rst tp L m n (cCl tp L j n R) := rfl
theorem nx59 {tp : Int → Int} {L j : Int} (c : j < L) (e : tp j = 59) : nx tp L j = skp tp L (j + 1) := by
  unfold nx tkS
  rw [pI_neg (by omega), pI_neg (by unfold dgP; omega), pI_neg (by unfold leP; omega), pI_neg (by unfold wdn; omega)]
def TNe (c k : Nat) : Prop := (c = 256 ∧ (k = 1 ∨ k = 8 ∨ k = 9 ∨ k = 10 ∨ k = 12 ∨ k = 14)) ∨ c = 262 ∨ (c = 259 ∧ k = 6)
theorem TNc_e {c k : Nat} (z : TNc c k) : TNe c k := by unfold TNc at z; unfold TNe; omega
theorem TNx_e {c k : Nat} (z : TNx c k) : TNe c k := TNc_e (TNx_c z)
def RQe (h : AH) (r : RS) (Q : Post) : Prop := (r.1 = 0 → ∀ h', Fr TNe h h' → aI h' 262 = r.2.2 → fI h' 256 1 = 0 → Q (some (.int (J 1))) h') ∧ (¬ r.1 = 0 → ∀ h', Fr TNe h h' → fI h' 256 9 = r.1 → fI h' 256 1 = 0 → Q (some (.int (J 0))) h')
-- OutwardDoorsModel.readsAll()Z at 0
set_option maxRecDepth 20000 in
set_option maxHeartbeats 4000000 in
theorem r173_0 {X : Cst} {d : Nat}  {h : AH} {Q : Post} (C_h : Lay h)
  (w : (0 ≤ fI h 256 11 ∧ fI h 256 11 < 7) ∧ Ex X PG d 174 0 [some (.ref 256), none, none] [] (wF (wF (wF (wF (wA h 259 (fI h 256 11) 0) 256 14 0) 256 8 0) 256 9 0) 256 12 0) (fun v3 h4 => ∃ r5 : Int, (-2147483648 ≤ r5 ∧ r5 < 2147483648) ∧ v3 = some (.int (J r5)) ∧ SH (wF (wF (wF (wF (wA h 259 (fI h 256 11) 0) 256 14 0) 256 8 0) 256 9 0) 256 12 0) h4 ∧ Ex X PG (d + 1) 173 35 [some (.ref 256), some (.int (J r5))] [] h4 Q)) :
    Ex X PG (d + 1) 173 0 [some (.ref 256), none] [] h Q := by
  refine wpx_ok (cut := [35]) 21 d 173 0 _ _ _ _ ?_
  show hs h 256 = (0, 11) ∧ ∃ q1, hR h 256 4 = some q1 ∧ hs h 256 = (0, 11) ∧ (hs h q1).1 = 1 ∧ ix (hF h 256 11) (hs h q1).2 ∧ hs (wI h q1 (Int32.toNatClampNeg (hF h 256 11)) (J 0)) 256 = (0, 11) ∧ hs (wG (wI h q1 (Int32.toNatClampNeg (hF h 256 11)) (J 0)) 256 14 (J 0)) 256 = (0, 11) ∧ hs (wG (wG (wI h q1 (Int32.toNatClampNeg (hF h 256 11)) (J 0)) 256 14 (J 0)) 256 8 (J 0)) 256 = (0, 11) ∧ hs (wG (wG (wG (wI h q1 (Int32.toNatClampNeg (hF h 256 11)) (J 0)) 256 14 (J 0)) 256 8 (J 0)) 256 9 (J 0)) 256 = (0, 11) ∧ hs (wG (wG (wG (wG (wI h q1 (Int32.toNatClampNeg (hF h 256 11)) (J 0)) 256 14 (J 0)) 256 8 (J 0)) 256 9 (J 0)) 256 12 (J 0)) 256 = (0, 11) ∧ Ex X PG d 174 0 [some (.ref 256), none, none] [] (wG (wG (wG (wG (wI h q1 (Int32.toNatClampNeg (hF h 256 11)) (J 0)) 256 14 (J 0)) 256 8 (J 0)) 256 9 (J 0)) 256 12 (J 0)) (fun v3 h4 => ∃ r5, v3 = some (.int r5) ∧ Ex X PG (d + 1) 173 35 [some (.ref 256), some (.int r5)] [] h4 Q)
  try simp only [aI_wAL, fI_wAL, aL_wA, aL_wF, aI_wA_ne, aI_wF_ne, fI_wA_ne, fI_wF_ne, fI_wF_nk, aL_wAL_ne, J_sameA, J_sameF, aL_same, Nat.add_left_cancel_iff, Nat.add_eq_left, Nat.left_eq_add, not_false_eq_true, Nat.reduceEqDiff, Nat.reduceAdd, J_add, J_sub, J_mul, J_neg, J_and, J_or, J_xor, J_shl, J_shr, J_div, J_i2b, J_i2l, J_l2i, J_lcm, J_max, J_min, J_nab, J_nao, rdA, rdF, rdL, wA_fold, wF_fold, wL_fold, wC_fold]
  refine ⟨(ls256 C_h), _, (lr256_4 C_h), ?_⟩
  refine ⟨(ls256 C_h), ?_⟩
  obtain ⟨k2, w⟩ := w
  refine ⟨congrArg Prod.fst (ls259 C_h), ixs (ls259 C_h) k2 (by decide), ?_⟩
  refine ⟨(ls256 C_h), ?_⟩
  refine ⟨(ls256 C_h), ?_⟩
  refine ⟨(ls256 C_h), ?_⟩
  refine ⟨(ls256 C_h), ?_⟩
  refine ⟨(ls256 C_h), ?_⟩
  refine Ex.mono w (Nat.le_refl _) ?_
  rintro v3 h4 ⟨r5, gr5, rfl, s6, w⟩
  refine ⟨_, rfl, ?_⟩
  have C_h4 := Lay_SH s6 C_h
  try simp only [aI_wAL, fI_wAL, aL_wA, aL_wF, aI_wA_ne, aI_wF_ne, fI_wA_ne, fI_wF_ne, fI_wF_nk, aL_wAL_ne, J_sameA, J_sameF, aL_same, Nat.add_left_cancel_iff, Nat.add_eq_left, Nat.left_eq_add, not_false_eq_true, Nat.reduceEqDiff, Nat.reduceAdd, J_add, J_sub, J_mul, J_neg, J_and, J_or, J_xor, J_shl, J_shr, J_div, J_i2b, J_i2l, J_l2i, J_lcm, J_max, J_min, J_nab, J_nao, rdA, rdF, rdL, wA_fold, wF_fold, wL_fold, wC_fold]
  exact w
-- OutwardDoorsModel.readsAll()Z at 35
set_option maxRecDepth 20000 in
set_option maxHeartbeats 4000000 in
theorem r173_35 {X : Cst} {d : Nat} {x1 : Int} {h : AH} {Q : Post} (C_h : Lay h)
  (w : (-2147483648 ≤ x1 ∧ x1 < 2147483648) ∧ ((x1 = 0 → ((¬ fI h 256 9 = 0 → Q (some (.int (J 0))) (wF h 256 1 0)) ∧ (fI h 256 9 = 0 → Q (some (.int (J 1))) (wF h 256 1 0)))) ∧ (¬ x1 = 0 → Ex X PG d 175 0 [some (.ref 256)] [] h (fun v22 h23 => ∃ r24 : Int, (-2147483648 ≤ r24 ∧ r24 < 2147483648) ∧ v22 = some (.int (J r24)) ∧ SH h h23 ∧ ((¬ r24 = 59 → Ex X PG d 175 0 [some (.ref 256)] [] h23 (fun v31 h32 => ∃ r33 : Int, (-2147483648 ≤ r33 ∧ r33 < 2147483648) ∧ v31 = some (.int (J r33)) ∧ SH h23 h32 ∧ ((r33 = (-1) → ((¬ fI h32 256 9 = 0 → Q (some (.int (J 0))) (wF h32 256 1 0)) ∧ (fI h32 256 9 = 0 → Q (some (.int (J 1))) (wF h32 256 1 0)))) ∧ (¬ r33 = (-1) → Ex X PG d 179 0 [some (.ref 256), some (.int (J 0)), some (.int (J (fI h32 256 8)))] [] h32 (fun v38 h39 => ∃ r40 : Int, (-2147483648 ≤ r40 ∧ r40 < 2147483648) ∧ v38 = some (.int (J r40)) ∧ SH h32 h39 ∧ ((¬ fI h39 256 9 = 0 → Q (some (.int (J 0))) (wF h39 256 1 0)) ∧ (fI h39 256 9 = 0 → Q (some (.int (J 1))) (wF h39 256 1 0)))))))) ∧ (r24 = 59 → Ex X PG d 174 0 [some (.ref 256), none, none] [] (wF h23 256 8 ((fI h23 256 8) + 1)) (fun v45 h46 => ∃ r47 : Int, (-2147483648 ≤ r47 ∧ r47 < 2147483648) ∧ v45 = some (.int (J r47)) ∧ SH (wF h23 256 8 ((fI h23 256 8) + 1)) h46 ∧ Ex X PG (d + 1) 173 35 [some (.ref 256), some (.int (J r47))] [] h46 Q))))))) :
    Ex X PG (d + 1) 173 35 [some (.ref 256), some (.int (J x1))] [] h Q := by
  refine wpx_ok (cut := [35]) 27 d 173 35 _ _ _ _ ?_
  show (((J x1) = (J 0) → (((J x1) = (J 0) → hs h 256 = (0, 11) ∧ hs (wG h 256 1 (J 0)) 256 = (0, 11) ∧ ((¬ (hF (wG h 256 1 (J 0)) 256 9) = (J 0) → (J 0 = J 0 ∨ J 0 = J 1) ∧ Q (some (.int (J 0))) (wG h 256 1 (J 0))) ∧ (¬ (¬ (hF (wG h 256 1 (J 0)) 256 9) = (J 0)) → (J 1 = J 0 ∨ J 1 = J 1) ∧ Q (some (.int (J 1))) (wG h 256 1 (J 0))))) ∧ (¬ ((J x1) = (J 0)) → hs h 256 = (0, 11) ∧ Ex X PG d 175 0 [some (.ref 256)] [] h (fun v8 h9 => ∃ r10, v8 = some (.int r10) ∧ ((r10 = (J (-1)) → hs h9 256 = (0, 11) ∧ hs (wG h9 256 1 (J 0)) 256 = (0, 11) ∧ ((¬ (hF (wG h9 256 1 (J 0)) 256 9) = (J 0) → (J 0 = J 0 ∨ J 0 = J 1) ∧ Q (some (.int (J 0))) (wG h9 256 1 (J 0))) ∧ (¬ (¬ (hF (wG h9 256 1 (J 0)) 256 9) = (J 0)) → (J 1 = J 0 ∨ J 1 = J 1) ∧ Q (some (.int (J 1))) (wG h9 256 1 (J 0))))) ∧ (¬ (r10 = (J (-1))) → hs h9 256 = (0, 11) ∧ hs h9 256 = (0, 11) ∧ Ex X PG d 179 0 [some (.ref 256), some (.int (J 0)), some (.int (hF h9 256 8))] [] h9 (fun v15 h16 => ∃ r17, v15 = some (.int r17) ∧ hs h16 256 = (0, 11) ∧ hs (wG h16 256 1 (J 0)) 256 = (0, 11) ∧ ((¬ (hF (wG h16 256 1 (J 0)) 256 9) = (J 0) → (J 0 = J 0 ∨ J 0 = J 1) ∧ Q (some (.int (J 0))) (wG h16 256 1 (J 0))) ∧ (¬ (¬ (hF (wG h16 256 1 (J 0)) 256 9) = (J 0)) → (J 1 = J 0 ∨ J 1 = J 1) ∧ Q (some (.int (J 1))) (wG h16 256 1 (J 0))))))))))) ∧ (¬ ((J x1) = (J 0)) → hs h 256 = (0, 11) ∧ Ex X PG d 175 0 [some (.ref 256)] [] h (fun v22 h23 => ∃ r24, v22 = some (.int r24) ∧ ((¬ r24 = (J 59) → (((J x1) = (J 0) → hs h23 256 = (0, 11) ∧ hs (wG h23 256 1 (J 0)) 256 = (0, 11) ∧ ((¬ (hF (wG h23 256 1 (J 0)) 256 9) = (J 0) → (J 0 = J 0 ∨ J 0 = J 1) ∧ Q (some (.int (J 0))) (wG h23 256 1 (J 0))) ∧ (¬ (¬ (hF (wG h23 256 1 (J 0)) 256 9) = (J 0)) → (J 1 = J 0 ∨ J 1 = J 1) ∧ Q (some (.int (J 1))) (wG h23 256 1 (J 0))))) ∧ (¬ ((J x1) = (J 0)) → hs h23 256 = (0, 11) ∧ Ex X PG d 175 0 [some (.ref 256)] [] h23 (fun v31 h32 => ∃ r33, v31 = some (.int r33) ∧ ((r33 = (J (-1)) → hs h32 256 = (0, 11) ∧ hs (wG h32 256 1 (J 0)) 256 = (0, 11) ∧ ((¬ (hF (wG h32 256 1 (J 0)) 256 9) = (J 0) → (J 0 = J 0 ∨ J 0 = J 1) ∧ Q (some (.int (J 0))) (wG h32 256 1 (J 0))) ∧ (¬ (¬ (hF (wG h32 256 1 (J 0)) 256 9) = (J 0)) → (J 1 = J 0 ∨ J 1 = J 1) ∧ Q (some (.int (J 1))) (wG h32 256 1 (J 0))))) ∧ (¬ (r33 = (J (-1))) → hs h32 256 = (0, 11) ∧ hs h32 256 = (0, 11) ∧ Ex X PG d 179 0 [some (.ref 256), some (.int (J 0)), some (.int (hF h32 256 8))] [] h32 (fun v38 h39 => ∃ r40, v38 = some (.int r40) ∧ hs h39 256 = (0, 11) ∧ hs (wG h39 256 1 (J 0)) 256 = (0, 11) ∧ ((¬ (hF (wG h39 256 1 (J 0)) 256 9) = (J 0) → (J 0 = J 0 ∨ J 0 = J 1) ∧ Q (some (.int (J 0))) (wG h39 256 1 (J 0))) ∧ (¬ (¬ (hF (wG h39 256 1 (J 0)) 256 9) = (J 0)) → (J 1 = J 0 ∨ J 1 = J 1) ∧ Q (some (.int (J 1))) (wG h39 256 1 (J 0))))))))))) ∧ (¬ (¬ r24 = (J 59)) → hs h23 256 = (0, 11) ∧ hs h23 256 = (0, 11) ∧ hs (wG h23 256 8 ((hF h23 256 8) + (J 1))) 256 = (0, 11) ∧ Ex X PG d 174 0 [some (.ref 256), none, none] [] (wG h23 256 8 ((hF h23 256 8) + (J 1))) (fun v45 h46 => ∃ r47, v45 = some (.int r47) ∧ Ex X PG (d + 1) 173 35 [some (.ref 256), some (.int r47)] [] h46 Q))))))
  try simp only [aI_wAL, fI_wAL, aL_wA, aL_wF, aI_wA_ne, aI_wF_ne, fI_wA_ne, fI_wF_ne, fI_wF_nk, aL_wAL_ne, J_sameA, J_sameF, aL_same, Nat.add_left_cancel_iff, Nat.add_eq_left, Nat.left_eq_add, not_false_eq_true, Nat.reduceEqDiff, Nat.reduceAdd, J_add, J_sub, J_mul, J_neg, J_and, J_or, J_xor, J_shl, J_shr, J_div, J_i2b, J_i2l, J_l2i, J_lcm, J_max, J_min, J_nab, J_nao, rdA, rdF, rdL, wA_fold, wF_fold, wL_fold, wC_fold]
  obtain ⟨k3, w⟩ := w
  refine ⟨fun c1 => ?_, fun c1 => ?_⟩
  · have t2 : x1 = 0 := ((Jeq k3 (by decide)).mp c1)
    replace w := w.1 t2
    refine ⟨fun _ => ?_, fun c4 => absurd ((Jeq k3 (by decide)).mpr t2) c4⟩
    refine ⟨(ls256 C_h), ?_⟩
    refine ⟨(ls256 C_h), ?_⟩
    refine ⟨fun c6 => ?_, fun c6 => ?_⟩
    · have t7 : ¬ fI h 256 9 = 0 := (fun e => c6 ((Jeq (rg_toInt _) (by decide)).mpr e))
      replace w := w.1 t7
      exact ⟨(Or.inl (by trivial)), w⟩
    · have t7 : fI h 256 9 = 0 := ((Jeq (rg_toInt _) (by decide)).mp (Classical.byContradiction c6))
      replace w := w.2 t7
      exact ⟨(Or.inr (by trivial)), w⟩
  · have t2 : ¬ x1 = 0 := (fun e => c1 ((Jeq k3 (by decide)).mpr e))
    replace w := w.2 t2
    refine ⟨(ls256 C_h), ?_⟩
    refine Ex.mono w (Nat.le_refl _) ?_
    rintro v22 h23 ⟨r24, gr24, rfl, s49, w⟩
    refine ⟨_, rfl, ?_⟩
    have C_h23 := Lay_SH s49 C_h
    try simp only [aI_wAL, fI_wAL, aL_wA, aL_wF, aI_wA_ne, aI_wF_ne, fI_wA_ne, fI_wF_ne, fI_wF_nk, aL_wAL_ne, J_sameA, J_sameF, aL_same, Nat.add_left_cancel_iff, Nat.add_eq_left, Nat.left_eq_add, not_false_eq_true, Nat.reduceEqDiff, Nat.reduceAdd, J_add, J_sub, J_mul, J_neg, J_and, J_or, J_xor, J_shl, J_shr, J_div, J_i2b, J_i2l, J_l2i, J_lcm, J_max, J_min, J_nab, J_nao, rdA, rdF, rdL, wA_fold, wF_fold, wL_fold, wC_fold]
    refine ⟨fun c25 => ?_, fun c25 => ?_⟩
    · have t26 : ¬ r24 = 59 := (fun e => c25 ((Jeq gr24 (by decide)).mpr e))
      replace w := w.1 t26
      refine ⟨fun c27 => absurd c27 (fun e => t2 ((Jeq k3 (by decide)).mp e)), fun _ => ?_⟩
      refine ⟨(ls256 C_h23), ?_⟩
      refine Ex.mono w (Nat.le_refl _) ?_
      rintro v31 h32 ⟨r33, gr33, rfl, s44, w⟩
      refine ⟨_, rfl, ?_⟩
      have C_h32 := Lay_SH s44 C_h23
      try simp only [aI_wAL, fI_wAL, aL_wA, aL_wF, aI_wA_ne, aI_wF_ne, fI_wA_ne, fI_wF_ne, fI_wF_nk, aL_wAL_ne, J_sameA, J_sameF, aL_same, Nat.add_left_cancel_iff, Nat.add_eq_left, Nat.left_eq_add, not_false_eq_true, Nat.reduceEqDiff, Nat.reduceAdd, J_add, J_sub, J_mul, J_neg, J_and, J_or, J_xor, J_shl, J_shr, J_div, J_i2b, J_i2l, J_l2i, J_lcm, J_max, J_min, J_nab, J_nao, rdA, rdF, rdL, wA_fold, wF_fold, wL_fold, wC_fold]
      refine ⟨fun c34 => ?_, fun c34 => ?_⟩
      · have t35 : r33 = (-1) := ((Jeq gr33 (by decide)).mp c34)
        replace w := w.1 t35
        refine ⟨(ls256 C_h32), ?_⟩
        refine ⟨(ls256 C_h32), ?_⟩
        refine ⟨fun c36 => ?_, fun c36 => ?_⟩
        · have t37 : ¬ fI h32 256 9 = 0 := (fun e => c36 ((Jeq (rg_toInt _) (by decide)).mpr e))
          replace w := w.1 t37
          exact ⟨(Or.inl (by trivial)), w⟩
        · have t37 : fI h32 256 9 = 0 := ((Jeq (rg_toInt _) (by decide)).mp (Classical.byContradiction c36))
          replace w := w.2 t37
          exact ⟨(Or.inr (by trivial)), w⟩
      · have t35 : ¬ r33 = (-1) := (fun e => c34 ((Jeq gr33 (by decide)).mpr e))
        replace w := w.2 t35
        refine ⟨(ls256 C_h32), ?_⟩
        refine ⟨(ls256 C_h32), ?_⟩
        refine Ex.mono w (Nat.le_refl _) ?_
        rintro v38 h39 ⟨r40, gr40, rfl, s43, w⟩
        refine ⟨_, rfl, ?_⟩
        have C_h39 := Lay_SH s43 C_h32
        try simp only [aI_wAL, fI_wAL, aL_wA, aL_wF, aI_wA_ne, aI_wF_ne, fI_wA_ne, fI_wF_ne, fI_wF_nk, aL_wAL_ne, J_sameA, J_sameF, aL_same, Nat.add_left_cancel_iff, Nat.add_eq_left, Nat.left_eq_add, not_false_eq_true, Nat.reduceEqDiff, Nat.reduceAdd, J_add, J_sub, J_mul, J_neg, J_and, J_or, J_xor, J_shl, J_shr, J_div, J_i2b, J_i2l, J_l2i, J_lcm, J_max, J_min, J_nab, J_nao, rdA, rdF, rdL, wA_fold, wF_fold, wL_fold, wC_fold]
        refine ⟨(ls256 C_h39), ?_⟩
        refine ⟨(ls256 C_h39), ?_⟩
        refine ⟨fun c41 => ?_, fun c41 => ?_⟩
        · have t42 : ¬ fI h39 256 9 = 0 := (fun e => c41 ((Jeq (rg_toInt _) (by decide)).mpr e))
          replace w := w.1 t42
          exact ⟨(Or.inl (by trivial)), w⟩
        · have t42 : fI h39 256 9 = 0 := ((Jeq (rg_toInt _) (by decide)).mp (Classical.byContradiction c41))
          replace w := w.2 t42
          exact ⟨(Or.inr (by trivial)), w⟩
    · have t26 : r24 = 59 := ((Jeq gr24 (by decide)).mp (Classical.byContradiction c25))
      replace w := w.2 t26
      refine ⟨(ls256 C_h23), ?_⟩
      refine ⟨(ls256 C_h23), ?_⟩
      refine ⟨(ls256 C_h23), ?_⟩
      refine Ex.mono w (Nat.le_refl _) ?_
      rintro v45 h46 ⟨r47, gr47, rfl, s48, w⟩
      refine ⟨_, rfl, ?_⟩
      have C_h46 := Lay_SH s48 C_h23
      try simp only [aI_wAL, fI_wAL, aL_wA, aL_wF, aI_wA_ne, aI_wF_ne, fI_wA_ne, fI_wF_ne, fI_wF_nk, aL_wAL_ne, J_sameA, J_sameF, aL_same, Nat.add_left_cancel_iff, Nat.add_eq_left, Nat.left_eq_add, not_false_eq_true, Nat.reduceEqDiff, Nat.reduceAdd, J_add, J_sub, J_mul, J_neg, J_and, J_or, J_xor, J_shl, J_shr, J_div, J_i2b, J_i2l, J_l2i, J_lcm, J_max, J_min, J_nab, J_nao, rdA, rdF, rdL, wA_fold, wF_fold, wL_fold, wC_fold]
      exact w
theorem q173 {X : Cst} {d : Nat} {L : Int} {tp : Int → Int} {h : AH} {Q : Post} (C : Lay h) (hd : 7 ≤ d) (B : BT tp) (e11 : fI h 256 11 = 6) :
    ∀ (m : Nat) (n g : Int) (r : RS) (h' : AH), 40 ≤ m + n → n ≤ 40 → Fr TNe h h' → (r.1 = 0 → g = 1 ∧ RkC h' tp L r.2.1 0 ∧ aI h' 262 = r.2.2 ∧ fI h' 256 14 = n + 1 ∧ CI (n + 1) r.2.2 ∧ n < 40) → (¬ r.1 = 0 → g = 0 ∧ fI h' 256 9 = r.1) → RQe h (rst tp L m n r) Q → Ex X PG d 173 35 [some (.ref 256), some (.int (J g))] [] h' Q := by
  obtain ⟨d, rfl⟩ : ∃ e, d = e + 1 := ⟨d - 1, by omega⟩
  intro m
  induction m with
  | zero =>
    intro n g r h' hm hn F y1 y0 k
    have rn : ¬ r.1 = 0 := fun e => by have := (y1 e).2.2.2.2.2; omega
    obtain ⟨eg, e9⟩ := y0 rn
    subst eg
    unfold rst at k
    rw [pI_neg rn] at k
    refine r173_35 (F.C C) ⟨by omega, fun _ => ⟨fun _ => ?_, fun z => absurd (e9.symm.trans z) rn⟩, fun z => absurd rfl z⟩
    exact k.2 rn _ (F.wF (by unfold TNe; omega)) (by rw [fI_wF_nk (by decide)]; exact e9) (fI_wF_eq (by omega))
  | succ m ih =>
    intro n g r h' hm hn F y1 y0 k
    unfold rst at k
    by_cases rn : r.1 = 0
    rotate_left
    · obtain ⟨eg, e9⟩ := y0 rn
      subst eg
      rw [pI_neg rn] at k
      refine r173_35 (F.C C) ⟨by omega, fun _ => ⟨fun _ => ?_, fun z => absurd (e9.symm.trans z) rn⟩, fun z => absurd rfl z⟩
      exact k.2 rn _ (F.wF (by unfold TNe; omega)) (by rw [fI_wF_nk (by decide)]; exact e9) (fI_wF_eq (by omega))
    obtain ⟨eg, K, eR, e14, I, hn'⟩ := y1 rn
    subst eg
    rw [pI_pos rn] at k
    have kj := K.j
    have sv := seeV_is (tp := tp) (L := L) (j := r.2.1) B kj.1 kj.2.2.1
    refine r173_35 (F.C C) ⟨by omega, fun z => absurd z (by decide), fun _ => ?_⟩
    refine m175 (F.C C) (by omega) K (fun h2 F2 K2 e82 => ⟨_, by omega, rfl, F2.1, fun c => ?_, fun c => ?_⟩)
    · have G2 := F.tr (F2.mo (fun _ _ => TNx_e))
      refine m175 (G2.C C) (by omega) K2 (fun h3 F3 K3 e83 => ⟨_, by omega, rfl, F3.1, fun c2 => ?_, fun c2 => ?_⟩)
      · rw [pI_pos (sv.2.1.mp c2)] at k
        have G3 := G2.tr (F3.mo (fun _ _ => TNx_e))
        refine ⟨fun z => absurd K3.2.2.2.2 z, fun _ => k.1 rfl _ (G3.wF (by unfold TNe; omega)) ?_ (fI_wF_eq (by omega))⟩
        rw [aI_wF_ne (by decide), F3.a 262 (fun k => by unfold TNx; omega), F2.a 262 (fun k => by unfold TNx; omega)]
        exact eR
      · have nL : ¬ L ≤ r.2.1 := fun z => c2 (sv.2.1.mpr z)
        rw [pI_neg nL, pI_neg (fun z => c ((sv.1 59 (by omega) (by omega)).mpr ⟨by omega, z⟩))] at k
        have G3 := G2.tr (F3.mo (fun _ _ => TNx_e))
        rw [e83]
        refine m179 (G3.C C) (by omega) K3.2.2.2.2 ⟨0, by omega, rfl, SH.rf.wF, fun _ => ?_, fun z => ?_⟩
        · refine k.2 (by show ¬ 1 + 8 * r.2.1 = 0; omega) _ ((G3.wF (by unfold TNe; omega)).wF (by unfold TNe; omega)) ?_ (fI_wF_eq (by omega))
          rw [fI_wF_nk (by decide), fI_wF_eq (by omega)]
          show 1 + 8 * r.2.1 + 0 = 1 + 8 * r.2.1
          omega
        · rw [fI_wF_eq (by omega)] at z; omega
    · obtain ⟨cL, c59⟩ := (sv.1 59 (by omega) (by omega)).mp c
      rw [pI_neg (by omega), pI_pos c59, rdC_s] at k
      have G2 := F.tr (F2.mo (fun _ _ => TNx_e))
      have Fw : Fr TNx h2 (wF h2 256 8 (fI h2 256 8 + 1)) := Fr.rf.wF ⟨rfl, rfl⟩
      have G3 := G2.tr (Fw.mo (fun _ _ => TNx_e))
      have K3 : RkC (wF h2 256 8 (fI h2 256 8 + 1)) tp L (nx tp L r.2.1) 0 := by
        rw [nx59 cL c59]
        exact K2.nx Fw (by rw [e82, fI_wF_eq (by omega)]) (by omega)
      have eR3 : aI (wF h2 256 8 (fI h2 256 8 + 1)) 262 = r.2.2 := by
        rw [aI_wF_ne (by decide), F2.a 262 (fun k => by unfold TNx; omega)]; exact eR
      have kj3 := K3.j
      refine m174c (n := n + 1) (R := r.2.2) (G3.C C) (by omega) K3 ((G3.f 256 11 (by unfold TNe; omega)).trans e11) ?_ eR3 I ⟨fun e h4 F4 K4 a4 e144 => ⟨1, by omega, rfl, F4.1, ?_⟩, fun e h4 F4 a4 => ⟨0, by omega, rfl, F4.1, ?_⟩⟩
      · rw [fI_wF_nk (by decide), F2.f 256 14 (by unfold TNx; omega)]; exact e14
      · have cl := I.cl kj3.1 kj3.2.1 e
        exact ih (n + 1) 1 _ h4 (by omega) (by omega) (G3.tr (F4.mo (fun _ _ => TNc_e))) (fun _ => ⟨rfl, K4, a4, e144, cl.1.1, cl.1.2⟩) (fun z => absurd e z) k
      · exact ih (n + 1) 0 _ h4 (by omega) (by omega) (G3.tr (F4.mo (fun _ _ => TNc_e))) (fun z => absurd z e) (fun _ => ⟨rfl, a4⟩) k
theorem m173c {X : Cst} {d : Nat} {L : Int} {tp R : Int → Int} {h : AH} {Q : Post} (C : Lay h) (hd : 7 ≤ d) (B : BT tp) (e11 : fI h 256 11 = 6) (et : aI h 257 = tp) (eL : fI h 256 1 = L) (hL : 0 ≤ L ∧ L ≤ 400) (eR : aI h 262 = R) (I : CI 0 R) (k : RQe h (rdC tp L 41 (skp tp L 0) 0 R) Q) : Ex X PG d 173 0 [some (.ref 256), none] [] h Q := by
  obtain ⟨d, rfl⟩ : ∃ e, d = e + 1 := ⟨d - 1, by omega⟩
  refine r173_0 C ?_
  rw [e11]
  have F : Fr TNe h (wF (wF (wF (wF (wA h 259 6 0) 256 14 0) 256 8 0) 256 9 0) 256 12 0) := ((((Fr.rf.wA (by unfold TNe; rw [tn_eq (by omega)]; omega)).wF (by unfold TNe; omega)).wF (by unfold TNe; omega)).wF (by unfold TNe; omega)).wF (by unfold TNe; omega)
  have K : RkC (wF (wF (wF (wF (wA h 259 6 0) 256 14 0) 256 8 0) 256 9 0) 256 12 0) tp L (skp tp L 0) 0 := by
    unfold RkC
    rw [F.a 257 (fun k => by unfold TNe; omega), fI_wF_nk (by decide), fI_wF_nk (by decide), fI_wF_nk (by decide), fI_wF_nk (by decide), fI_wA_ne (by decide), fI_wF_nk (by decide), fI_wF_nk (by decide), fI_wF_eq (by omega), fI_wF_nk (by decide), fI_wF_eq (by omega)]
    exact ⟨et, ⟨eL, hL⟩, by omega, rfl, rfl⟩
  have eR2 : aI (wF (wF (wF (wF (wA h 259 6 0) 256 14 0) 256 8 0) 256 9 0) 256 12 0) 262 = R := by
    rw [aI_wF_ne (by decide), aI_wF_ne (by decide), aI_wF_ne (by decide), aI_wF_ne (by decide), aI_wA_ne (by decide)]; exact eR
  have kj := K.j
  rw [rdC_s] at k
  refine ⟨by omega, ?_⟩
  refine m174c (n := 0) (R := R) (F.C C) (by omega) K ?_ ?_ eR2 I ⟨fun e h4 F4 K4 a4 e144 => ⟨1, by omega, rfl, F4.1, ?_⟩, fun e h4 F4 a4 => ⟨0, by omega, rfl, F4.1, ?_⟩⟩
  · rw [F.f 256 11 (by unfold TNe; omega)]; exact e11
  · rw [fI_wF_nk (by decide), fI_wF_nk (by decide), fI_wF_nk (by decide), fI_wF_eq (by omega)]
  · have cl := I.cl kj.1 kj.2.1 e
    exact q173 C (by omega) B e11 40 0 1 _ h4 (by omega) (by omega) (F.tr (F4.mo (fun _ _ => TNc_e))) (fun _ => ⟨rfl, K4, a4, e144, cl.1.1, cl.1.2⟩) (fun z => absurd e z) k
  · exact q173 C (by omega) B e11 40 0 0 _ h4 (by omega) (by omega) (F.tr (F4.mo (fun _ _ => TNc_e))) (fun z => absurd z e) (fun _ => ⟨rfl, a4⟩) k
