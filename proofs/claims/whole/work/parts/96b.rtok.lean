/-! TOKENS of the reference. -/
def RkC (h : AH) (tp : Int → Int) (L j f : Int) : Prop := aI h 257 = tp ∧ (fI h 256 1 = L ∧ 0 ≤ L ∧ L ≤ 400) ∧ (0 ≤ fI h 256 8 ∧ fI h 256 8 ≤ L) ∧ skp tp L (fI h 256 8) = j ∧ fI h 256 9 = f
noncomputable def seeV (tp : Int → Int) (L j : Int) : Int := pI (j < L) (iand (tp j) 255) (-1)
def TNx (c k : Nat) : Prop := c = 256 ∧ k = 8
theorem RkC.j {h : AH} {tp : Int → Int} {L j f : Int} (K : RkC h tp L j f) : 0 ≤ j ∧ j ≤ L ∧ L ≤ 400 ∧ skp tp L j = j := by
  obtain ⟨e1, e2, e3, e4, e5⟩ := K
  have a := skp_b (tp := tp) e3.1 e3.2
  have b := skp_skp (tp := tp) e3.1 e3.2 e2.2.2
  rw [e4] at a b
  omega
-- OutwardDoorsModel.see()I at 0
set_option maxRecDepth 20000 in
set_option maxHeartbeats 4000000 in
theorem r175_0 {X : Cst} {d : Nat}  {h : AH} {Q : Post} (C_h : Lay h)
  (w : ((fI h 256 1 ≤ fI h 256 8 → Q (some (.int (J (-1)))) h) ∧ (¬ fI h 256 1 ≤ fI h 256 8 → (0 ≤ fI h 256 8 ∧ fI h 256 8 < 400) ∧ ((¬ aI h 257 (fI h 256 8) = 32 → Q (some (.int (J (iand (aI h 257 (fI h 256 8)) 255)))) h) ∧ (aI h 257 (fI h 256 8) = 32 → Ex X PG (d + 1) 175 0 [some (.ref 256)] [] (wF h 256 8 ((fI h 256 8) + 1)) Q))))) :
    Ex X PG (d + 1) 175 0 [some (.ref 256)] [] h Q := by
  refine wpx_ok (cut := [0]) 26 d 175 0 _ _ _ _ ?_
  show hs h 256 = (0, 11) ∧ hs h 256 = (0, 11) ∧ (((hF h 256 1) ≤ (hF h 256 8) → hs h 256 = (0, 11) ∧ hs h 256 = (0, 11) ∧ (((hF h 256 1) ≤ (hF h 256 8) → Q (some (.int (J (-1)))) h) ∧ (¬ ((hF h 256 1) ≤ (hF h 256 8)) → hs h 256 = (0, 11) ∧ ∃ q5, hR h 256 0 = some q5 ∧ hs h 256 = (0, 11) ∧ ((hs h q5).1 = 3 ∨ (hs h q5).1 = 4) ∧ ix (hF h 256 8) (hs h q5).2 ∧ Q (some (.int ((hI h q5 (Int32.toNatClampNeg (hF h 256 8))) &&& (J 255)))) h))) ∧ (¬ ((hF h 256 1) ≤ (hF h 256 8)) → hs h 256 = (0, 11) ∧ ∃ q7, hR h 256 0 = some q7 ∧ hs h 256 = (0, 11) ∧ ((hs h q7).1 = 3 ∨ (hs h q7).1 = 4) ∧ ix (hF h 256 8) (hs h q7).2 ∧ ((¬ (hI h q7 (Int32.toNatClampNeg (hF h 256 8))) = (J 32) → hs h 256 = (0, 11) ∧ hs h 256 = (0, 11) ∧ (((hF h 256 1) ≤ (hF h 256 8) → Q (some (.int (J (-1)))) h) ∧ (¬ ((hF h 256 1) ≤ (hF h 256 8)) → hs h 256 = (0, 11) ∧ ∃ q13, hR h 256 0 = some q13 ∧ hs h 256 = (0, 11) ∧ ((hs h q13).1 = 3 ∨ (hs h q13).1 = 4) ∧ ix (hF h 256 8) (hs h q13).2 ∧ Q (some (.int ((hI h q13 (Int32.toNatClampNeg (hF h 256 8))) &&& (J 255)))) h))) ∧ (¬ (¬ (hI h q7 (Int32.toNatClampNeg (hF h 256 8))) = (J 32)) → hs h 256 = (0, 11) ∧ hs h 256 = (0, 11) ∧ Ex X PG (d + 1) 175 0 [some (.ref 256)] [] (wG h 256 8 ((hF h 256 8) + (J 1))) Q))))
  try simp only [aI_wAL, fI_wAL, aL_wA, aL_wF, aI_wA_ne, aI_wF_ne, fI_wA_ne, fI_wF_ne, fI_wF_nk, aL_wAL_ne, J_sameA, J_sameF, aL_same, Nat.add_left_cancel_iff, Nat.add_eq_left, Nat.left_eq_add, not_false_eq_true, Nat.reduceEqDiff, Nat.reduceAdd, J_add, J_sub, J_mul, J_neg, J_and, J_or, J_xor, J_shl, J_shr, J_div, J_i2b, J_i2l, J_l2i, J_lcm, J_max, J_min, J_nab, J_nao, rdA, rdF, rdL, wA_fold, wF_fold, wL_fold, wC_fold]
  refine ⟨(ls256 C_h), ?_⟩
  refine ⟨(ls256 C_h), ?_⟩
  refine ⟨fun c1 => ?_, fun c1 => ?_⟩
  · have t2 : fI h 256 1 ≤ fI h 256 8 := ((Jle (rg_toInt _) (rg_toInt _)).mp c1)
    replace w := w.1 t2
    refine ⟨(ls256 C_h), ?_⟩
    refine ⟨(ls256 C_h), ?_⟩
    refine ⟨fun _ => ?_, fun c3 => absurd ((Jle (rg_toInt _) (rg_toInt _)).mpr t2) c3⟩
    exact w
  · have t2 : ¬ fI h 256 1 ≤ fI h 256 8 := (fun e => c1 ((Jle (rg_toInt _) (rg_toInt _)).mpr e))
    replace w := w.2 t2
    refine ⟨(ls256 C_h), _, (lr256_0 C_h), ?_⟩
    refine ⟨(ls256 C_h), ?_⟩
    obtain ⟨k8, w⟩ := w
    refine ⟨Or.inl (congrArg Prod.fst (ls257 C_h)), ixs (ls257 C_h) k8 (by decide), ?_⟩
    refine ⟨fun c9 => ?_, fun c9 => ?_⟩
    · have t10 : ¬ aI h 257 (fI h 256 8) = 32 := (fun e => c9 ((Jeq (rg_toInt _) (by decide)).mpr e))
      replace w := w.1 t10
      refine ⟨(ls256 C_h), ?_⟩
      refine ⟨(ls256 C_h), ?_⟩
      refine ⟨fun c11 => absurd c11 (fun e => t2 ((Jle (rg_toInt _) (rg_toInt _)).mp e)), fun _ => ?_⟩
      refine ⟨(ls256 C_h), _, (lr256_0 C_h), ?_⟩
      refine ⟨(ls256 C_h), ?_⟩
      refine ⟨Or.inl (congrArg Prod.fst (ls257 C_h)), ixs (ls257 C_h) k8 (by decide), ?_⟩
      exact w
    · have t10 : aI h 257 (fI h 256 8) = 32 := ((Jeq (rg_toInt _) (by decide)).mp (Classical.byContradiction c9))
      replace w := w.2 t10
      refine ⟨(ls256 C_h), ?_⟩
      refine ⟨(ls256 C_h), ?_⟩
      exact w
theorem m175 {X : Cst} {d : Nat} {L j f : Int} {tp : Int → Int} {h : AH} {Q : Post} (C : Lay h) (hd : 1 ≤ d) (K : RkC h tp L j f) (k : ∀ h', Fr TNx h h' → RkC h' tp L j f → fI h' 256 8 = j → Q (some (.int (J (seeV tp L j)))) h') : Ex X PG d 175 0 [some (.ref 256)] [] h Q := by
  obtain ⟨d, rfl⟩ : ∃ e, d = e + 1 := ⟨d - 1, by omega⟩
  have lp : ∀ (z : Nat) (h' : AH), 401 - fI h' 256 8 = z → Fr TNx h h' → RkC h' tp L j f → Ex X PG (d + 1) 175 0 [some (.ref 256)] [] h' Q := by
    intro z
    induction z with
    | zero => intro h' e F K'; have := K'.2.1; have := K'.2.2.1; omega
    | succ z ih =>
      intro h' e F K'
      have K2 := K'
      obtain ⟨e1, e2, e3, e4, e5⟩ := K'
      generalize er : fI h' 256 8 = r at e e3 e4
      refine r175_0 (F.C C) ?_
      rw [er, e1, e2.1]
      refine ⟨fun c => ?_, fun c => ⟨by omega, fun c2 => ?_, fun c2 => ?_⟩⟩
      · have : skp tp L r = r := skp_no e3.1 e2.2.2 (fun z => by omega)
        have q := k h' F K2 (er.trans (this.symm.trans e4))
        unfold seeV at q
        rw [pI_neg (by omega)] at q
        exact q
      · have : skp tp L r = r := skp_no e3.1 e2.2.2 (fun _ => c2)
        have ej : r = j := this.symm.trans e4
        have q := k h' F K2 (er.trans ej)
        unfold seeV at q
        rw [pI_pos (by omega), ← ej] at q
        exact q
      · refine ih _ ?_ (F.wF ⟨rfl, rfl⟩) ⟨?_, ⟨?_, e2.2⟩, ?_, ?_, ?_⟩
        · rw [fI_wF_eq (by omega)]; omega
        · rw [aI_wF_ne (by decide)]; exact e1
        · rw [fI_wF_nk (by decide)]; exact e2.1
        · rw [fI_wF_eq (by omega)]; omega
        · rw [fI_wF_eq (by omega), ← skp_s e3.1 e2.2.2 (by omega) c2]; exact e4
        · rw [fI_wF_nk (by decide)]; exact e5
  exact lp _ h (Int.toNat_of_nonneg (by have := K.2.1; have := K.2.2.1; omega)).symm Fr.rf K
-- OutwardDoorsModel.isLetter(I)Z at 0
set_option maxRecDepth 20000 in
set_option maxHeartbeats 4000000 in
theorem r178_0 {X : Cst} {d : Nat} {x1 : Int} {h : AH} {Q : Post} (C_h : Lay h)
  (w : (-2147483648 ≤ x1 ∧ x1 < 2147483648) ∧ ((fI h 256 1 ≤ x1 → Q (some (.int (J 0))) h) ∧ (¬ fI h 256 1 ≤ x1 → (0 ≤ x1 ∧ x1 < 400) ∧ ((aI h 257 x1 < 97 → Q (some (.int (J 0))) h) ∧ (¬ aI h 257 x1 < 97 → ((122 < aI h 257 x1 → Q (some (.int (J 0))) h) ∧ (¬ 122 < aI h 257 x1 → Q (some (.int (J 1))) h))))))) :
    Ex X PG (d + 1) 178 0 [some (.ref 256), some (.int (J x1))] [] h Q := by
  refine wpx_ok (cut := []) 19 d 178 0 _ _ _ _ ?_
  show hs h 256 = (0, 11) ∧ (((hF h 256 1) ≤ (J x1) → (J 0 = J 0 ∨ J 0 = J 1) ∧ Q (some (.int (J 0))) h) ∧ (¬ ((hF h 256 1) ≤ (J x1)) → hs h 256 = (0, 11) ∧ ∃ q4, hR h 256 0 = some q4 ∧ ((hs h q4).1 = 3 ∨ (hs h q4).1 = 4) ∧ ix (J x1) (hs h q4).2 ∧ (((hI h q4 (Int32.toNatClampNeg (J x1))) < (J 97) → (J 0 = J 0 ∨ J 0 = J 1) ∧ Q (some (.int (J 0))) h) ∧ (¬ ((hI h q4 (Int32.toNatClampNeg (J x1))) < (J 97)) → hs h 256 = (0, 11) ∧ ∃ q8, hR h 256 0 = some q8 ∧ ((hs h q8).1 = 3 ∨ (hs h q8).1 = 4) ∧ ix (J x1) (hs h q8).2 ∧ (((J 122) < (hI h q8 (Int32.toNatClampNeg (J x1))) → (J 0 = J 0 ∨ J 0 = J 1) ∧ Q (some (.int (J 0))) h) ∧ (¬ ((J 122) < (hI h q8 (Int32.toNatClampNeg (J x1)))) → (J 1 = J 0 ∨ J 1 = J 1) ∧ Q (some (.int (J 1))) h))))))
  try simp only [aI_wAL, fI_wAL, aL_wA, aL_wF, aI_wA_ne, aI_wF_ne, fI_wA_ne, fI_wF_ne, fI_wF_nk, aL_wAL_ne, J_sameA, J_sameF, aL_same, Nat.add_left_cancel_iff, Nat.add_eq_left, Nat.left_eq_add, not_false_eq_true, Nat.reduceEqDiff, Nat.reduceAdd, J_add, J_sub, J_mul, J_neg, J_and, J_or, J_xor, J_shl, J_shr, J_div, J_i2b, J_i2l, J_l2i, J_lcm, J_max, J_min, J_nab, J_nao, rdA, rdF, rdL, wA_fold, wF_fold, wL_fold, wC_fold]
  refine ⟨(ls256 C_h), ?_⟩
  obtain ⟨k3, w⟩ := w
  refine ⟨fun c1 => ?_, fun c1 => ?_⟩
  · have t2 : fI h 256 1 ≤ x1 := ((Jle (rg_toInt _) k3).mp c1)
    replace w := w.1 t2
    exact ⟨(Or.inl (by trivial)), w⟩
  · have t2 : ¬ fI h 256 1 ≤ x1 := (fun e => c1 ((Jle (rg_toInt _) k3).mpr e))
    replace w := w.2 t2
    refine ⟨(ls256 C_h), _, (lr256_0 C_h), ?_⟩
    obtain ⟨k5, w⟩ := w
    refine ⟨Or.inl (congrArg Prod.fst (ls257 C_h)), ixs (ls257 C_h) k5 (by decide), ?_⟩
    refine ⟨fun c6 => ?_, fun c6 => ?_⟩
    · have t7 : aI h 257 x1 < 97 := ((Jlt (rg_toInt _) (by decide)).mp c6)
      replace w := w.1 t7
      exact ⟨(Or.inl (by trivial)), w⟩
    · have t7 : ¬ aI h 257 x1 < 97 := (fun e => c6 ((Jlt (rg_toInt _) (by decide)).mpr e))
      replace w := w.2 t7
      refine ⟨(ls256 C_h), _, (lr256_0 C_h), ?_⟩
      refine ⟨Or.inl (congrArg Prod.fst (ls257 C_h)), ixs (ls257 C_h) k5 (by decide), ?_⟩
      refine ⟨fun c9 => ?_, fun c9 => ?_⟩
      · have t10 : 122 < aI h 257 x1 := ((Jlt (by decide) (rg_toInt _)).mp c9)
        replace w := w.1 t10
        exact ⟨(Or.inl (by trivial)), w⟩
      · have t10 : ¬ 122 < aI h 257 x1 := (fun e => c9 ((Jlt (by decide) (rg_toInt _)).mpr e))
        replace w := w.2 t10
        exact ⟨(Or.inr (by trivial)), w⟩
theorem m178 {X : Cst} {d : Nat} {L i : Int} {tp : Int → Int} {h : AH} {Q : Post} (C : Lay h) (hd : 1 ≤ d) (et : aI h 257 = tp) (eL : fI h 256 1 = L) (hL : L ≤ 400) (hi : 0 ≤ i ∧ i < 2147483648) (k : Q (some (.int (J (bI (i < L ∧ leP (tp i)))))) h) : Ex X PG d 178 0 [some (.ref 256), some (.int (J i))] [] h Q := by
  obtain ⟨d, rfl⟩ : ∃ e, d = e + 1 := ⟨d - 1, by omega⟩
  refine r178_0 C ?_
  rw [et, eL]
  unfold leP at k
  refine ⟨by omega, fun c => ?_, fun c => ⟨by omega, fun c2 => ?_, fun c2 => ⟨fun c3 => ?_, fun c3 => ?_⟩⟩⟩
  · rw [bI_neg (by omega)] at k; exact k
  · rw [bI_neg (by omega)] at k; exact k
  · rw [bI_neg (by omega)] at k; exact k
  · rw [bI_pos (by omega)] at k; exact k
-- OutwardDoorsModel.isDigit(I)Z at 0
set_option maxRecDepth 20000 in
set_option maxHeartbeats 4000000 in
theorem r185_0 {X : Cst} {d : Nat} {x1 : Int} {h : AH} {Q : Post} (C_h : Lay h)
  (w : (-2147483648 ≤ x1 ∧ x1 < 2147483648) ∧ ((fI h 256 1 ≤ x1 → Q (some (.int (J 0))) h) ∧ (¬ fI h 256 1 ≤ x1 → (0 ≤ x1 ∧ x1 < 400) ∧ ((aI h 257 x1 < 48 → Q (some (.int (J 0))) h) ∧ (¬ aI h 257 x1 < 48 → ((57 < aI h 257 x1 → Q (some (.int (J 0))) h) ∧ (¬ 57 < aI h 257 x1 → Q (some (.int (J 1))) h))))))) :
    Ex X PG (d + 1) 185 0 [some (.ref 256), some (.int (J x1))] [] h Q := by
  refine wpx_ok (cut := []) 19 d 185 0 _ _ _ _ ?_
  show hs h 256 = (0, 11) ∧ (((hF h 256 1) ≤ (J x1) → (J 0 = J 0 ∨ J 0 = J 1) ∧ Q (some (.int (J 0))) h) ∧ (¬ ((hF h 256 1) ≤ (J x1)) → hs h 256 = (0, 11) ∧ ∃ q4, hR h 256 0 = some q4 ∧ ((hs h q4).1 = 3 ∨ (hs h q4).1 = 4) ∧ ix (J x1) (hs h q4).2 ∧ (((hI h q4 (Int32.toNatClampNeg (J x1))) < (J 48) → (J 0 = J 0 ∨ J 0 = J 1) ∧ Q (some (.int (J 0))) h) ∧ (¬ ((hI h q4 (Int32.toNatClampNeg (J x1))) < (J 48)) → hs h 256 = (0, 11) ∧ ∃ q8, hR h 256 0 = some q8 ∧ ((hs h q8).1 = 3 ∨ (hs h q8).1 = 4) ∧ ix (J x1) (hs h q8).2 ∧ (((J 57) < (hI h q8 (Int32.toNatClampNeg (J x1))) → (J 0 = J 0 ∨ J 0 = J 1) ∧ Q (some (.int (J 0))) h) ∧ (¬ ((J 57) < (hI h q8 (Int32.toNatClampNeg (J x1)))) → (J 1 = J 0 ∨ J 1 = J 1) ∧ Q (some (.int (J 1))) h))))))
  try simp only [aI_wAL, fI_wAL, aL_wA, aL_wF, aI_wA_ne, aI_wF_ne, fI_wA_ne, fI_wF_ne, fI_wF_nk, aL_wAL_ne, J_sameA, J_sameF, aL_same, Nat.add_left_cancel_iff, Nat.add_eq_left, Nat.left_eq_add, not_false_eq_true, Nat.reduceEqDiff, Nat.reduceAdd, J_add, J_sub, J_mul, J_neg, J_and, J_or, J_xor, J_shl, J_shr, J_div, J_i2b, J_i2l, J_l2i, J_lcm, J_max, J_min, J_nab, J_nao, rdA, rdF, rdL, wA_fold, wF_fold, wL_fold, wC_fold]
  refine ⟨(ls256 C_h), ?_⟩
  obtain ⟨k3, w⟩ := w
  refine ⟨fun c1 => ?_, fun c1 => ?_⟩
  · have t2 : fI h 256 1 ≤ x1 := ((Jle (rg_toInt _) k3).mp c1)
    replace w := w.1 t2
    exact ⟨(Or.inl (by trivial)), w⟩
  · have t2 : ¬ fI h 256 1 ≤ x1 := (fun e => c1 ((Jle (rg_toInt _) k3).mpr e))
    replace w := w.2 t2
    refine ⟨(ls256 C_h), _, (lr256_0 C_h), ?_⟩
    obtain ⟨k5, w⟩ := w
    refine ⟨Or.inl (congrArg Prod.fst (ls257 C_h)), ixs (ls257 C_h) k5 (by decide), ?_⟩
    refine ⟨fun c6 => ?_, fun c6 => ?_⟩
    · have t7 : aI h 257 x1 < 48 := ((Jlt (rg_toInt _) (by decide)).mp c6)
      replace w := w.1 t7
      exact ⟨(Or.inl (by trivial)), w⟩
    · have t7 : ¬ aI h 257 x1 < 48 := (fun e => c6 ((Jlt (rg_toInt _) (by decide)).mpr e))
      replace w := w.2 t7
      refine ⟨(ls256 C_h), _, (lr256_0 C_h), ?_⟩
      refine ⟨Or.inl (congrArg Prod.fst (ls257 C_h)), ixs (ls257 C_h) k5 (by decide), ?_⟩
      refine ⟨fun c9 => ?_, fun c9 => ?_⟩
      · have t10 : 57 < aI h 257 x1 := ((Jlt (by decide) (rg_toInt _)).mp c9)
        replace w := w.1 t10
        exact ⟨(Or.inl (by trivial)), w⟩
      · have t10 : ¬ 57 < aI h 257 x1 := (fun e => c9 ((Jlt (by decide) (rg_toInt _)).mpr e))
        replace w := w.2 t10
        exact ⟨(Or.inr (by trivial)), w⟩
theorem m185 {X : Cst} {d : Nat} {L i : Int} {tp : Int → Int} {h : AH} {Q : Post} (C : Lay h) (hd : 1 ≤ d) (et : aI h 257 = tp) (eL : fI h 256 1 = L) (hL : L ≤ 400) (hi : 0 ≤ i ∧ i < 2147483648) (k : Q (some (.int (J (bI (i < L ∧ dgP (tp i)))))) h) : Ex X PG d 185 0 [some (.ref 256), some (.int (J i))] [] h Q := by
  obtain ⟨d, rfl⟩ : ∃ e, d = e + 1 := ⟨d - 1, by omega⟩
  refine r185_0 C ?_
  rw [et, eL]
  unfold dgP at k
  refine ⟨by omega, fun c => ?_, fun c => ⟨by omega, fun c2 => ?_, fun c2 => ⟨fun c3 => ?_, fun c3 => ?_⟩⟩⟩
  · rw [bI_neg (by omega)] at k; exact k
  · rw [bI_neg (by omega)] at k; exact k
  · rw [bI_neg (by omega)] at k; exact k
  · rw [bI_pos (by omega)] at k; exact k
theorem sh8 {w b : Int} (hw : 0 ≤ w ∧ w < 36028797018963968) (hb : 0 ≤ b ∧ b < 256) : (Int64.ofInt w <<< (i2l 8 &&& 63)) ||| i2l b = Int64.ofInt (w * 256 + b) := by
  obtain ⟨n, rfl⟩ := Int.eq_ofNat_of_zero_le hw.1
  obtain ⟨m, rfl⟩ := Int.eq_ofNat_of_zero_le hb.1
  have e8 : i2l 8 &&& 63 = 8 := by decide
  rw [e8]
  have em : i2l (m : Int) = Int64.ofInt m := by
    apply Int64.toInt_inj.mp
    rw [i2l_toInt (by omega), Int64.toInt_ofInt_of_le (by omega) (by omega)]
  rw [em]
  apply Int64.toBitVec_inj.mp
  rw [Int64.toBitVec_or, Int64.toBitVec_shiftLeft, Int64.toBitVec_ofInt, Int64.toBitVec_ofInt, Int64.toBitVec_ofInt]
  apply BitVec.eq_of_toNat_eq
  rw [BitVec.toNat_or]
  have s8 : ((8 : Int64).toBitVec.smod 64) = 8#64 := by decide
  rw [s8]
  have q1 : BitVec.ofInt 64 ((n : Nat) : Int) = BitVec.ofNat 64 n := BitVec.ofInt_ofNat ..
  have q2 : BitVec.ofInt 64 ((m : Nat) : Int) = BitVec.ofNat 64 m := BitVec.ofInt_ofNat ..
  have q3 : BitVec.ofInt 64 ((n : Int) * 256 + m) = BitVec.ofNat 64 (n * 256 + m) := by
    rw [show (n : Int) * 256 + m = ((n * 256 + m : Nat) : Int) by omega]; exact BitVec.ofInt_ofNat ..
  rw [q1, q2, q3]
  show ((BitVec.ofNat 64 n <<< (8#64).toNat).toNat ||| _) = _
  rw [BitVec.toNat_shiftLeft]
  simp only [BitVec.toNat_ofNat]
  rw [show 8 % 2 ^ 64 = 8 from by decide, Nat.mod_eq_of_lt (a := n) (by omega), Nat.mod_eq_of_lt (a := m) (by omega), Nat.mod_eq_of_lt (a := n * 256 + m) (by omega), Nat.mod_eq_of_lt (by rw [Nat.shiftLeft_eq]; omega), ← Nat.shiftLeft_add_eq_or_of_lt (by omega), Nat.shiftLeft_eq]
-- OutwardDoorsModel.passWord()V at 0
set_option maxRecDepth 20000 in
set_option maxHeartbeats 4000000 in
theorem r182_0 {X : Cst} {d : Nat}  {h : AH} {Q : Post} (C_h : Lay h)
  (w : Ex X PG d 178 0 [some (.ref 256), some (.int (J (fI h 256 8)))] [] h (fun v1 h2 => ∃ r3 : Int, (-2147483648 ≤ r3 ∧ r3 < 2147483648) ∧ v1 = some (.int (J r3)) ∧ SH h h2 ∧ ((r3 = 0 → Q none h2) ∧ (¬ r3 = 0 → Ex X PG (d + 1) 182 0 [some (.ref 256)] [] (wF h2 256 8 ((fI h2 256 8) + 1)) Q)))) :
    Ex X PG (d + 1) 182 0 [some (.ref 256)] [] h Q := by
  refine wpx_ok (cut := [0]) 12 d 182 0 _ _ _ _ ?_
  show hs h 256 = (0, 11) ∧ hs h 256 = (0, 11) ∧ Ex X PG d 178 0 [some (.ref 256), some (.int (hF h 256 8))] [] h (fun v1 h2 => ∃ r3, v1 = some (.int r3) ∧ ((r3 = (J 0) → Q none h2) ∧ (¬ (r3 = (J 0)) → hs h2 256 = (0, 11) ∧ hs h2 256 = (0, 11) ∧ Ex X PG (d + 1) 182 0 [some (.ref 256)] [] (wG h2 256 8 ((hF h2 256 8) + (J 1))) Q)))
  try simp only [aI_wAL, fI_wAL, aL_wA, aL_wF, aI_wA_ne, aI_wF_ne, fI_wA_ne, fI_wF_ne, fI_wF_nk, aL_wAL_ne, J_sameA, J_sameF, aL_same, Nat.add_left_cancel_iff, Nat.add_eq_left, Nat.left_eq_add, not_false_eq_true, Nat.reduceEqDiff, Nat.reduceAdd, J_add, J_sub, J_mul, J_neg, J_and, J_or, J_xor, J_shl, J_shr, J_div, J_i2b, J_i2l, J_l2i, J_lcm, J_max, J_min, J_nab, J_nao, rdA, rdF, rdL, wA_fold, wF_fold, wL_fold, wC_fold]
  refine ⟨(ls256 C_h), ?_⟩
  refine ⟨(ls256 C_h), ?_⟩
  refine Ex.mono w (Nat.le_refl _) ?_
  rintro v1 h2 ⟨r3, gr3, rfl, s6, w⟩
  refine ⟨_, rfl, ?_⟩
  have C_h2 := Lay_SH s6 C_h
  try simp only [aI_wAL, fI_wAL, aL_wA, aL_wF, aI_wA_ne, aI_wF_ne, fI_wA_ne, fI_wF_ne, fI_wF_nk, aL_wAL_ne, J_sameA, J_sameF, aL_same, Nat.add_left_cancel_iff, Nat.add_eq_left, Nat.left_eq_add, not_false_eq_true, Nat.reduceEqDiff, Nat.reduceAdd, J_add, J_sub, J_mul, J_neg, J_and, J_or, J_xor, J_shl, J_shr, J_div, J_i2b, J_i2l, J_l2i, J_lcm, J_max, J_min, J_nab, J_nao, rdA, rdF, rdL, wA_fold, wF_fold, wL_fold, wC_fold]
  refine ⟨fun c4 => ?_, fun c4 => ?_⟩
  · have t5 : r3 = 0 := ((Jeq gr3 (by decide)).mp c4)
    replace w := w.1 t5
    exact w
  · have t5 : ¬ r3 = 0 := (fun e => c4 ((Jeq gr3 (by decide)).mpr e))
    replace w := w.2 t5
    refine ⟨(ls256 C_h2), ?_⟩
    refine ⟨(ls256 C_h2), ?_⟩
    exact w
theorem m182 {X : Cst} {d : Nat} {L i : Int} {tp : Int → Int} {h : AH} {Q : Post} (C : Lay h) (hd : 2 ≤ d) (et : aI h 257 = tp) (eL : fI h 256 1 = L) (hL : 0 ≤ L ∧ L ≤ 400) (ei : fI h 256 8 = i) (hi : 0 ≤ i ∧ i ≤ L) (k : ∀ h', Fr TNx h h' → fI h' 256 8 = rn tp L leP i → Q none h') : Ex X PG d 182 0 [some (.ref 256)] [] h Q := by
  obtain ⟨d, rfl⟩ : ∃ e, d = e + 1 := ⟨d - 1, by omega⟩
  have lp : ∀ (z : Nat) (m : Int) (h' : AH), 401 - m = z → 0 ≤ m → m ≤ L → fI h' 256 8 = m → Fr TNx h h' → rn tp L leP m = rn tp L leP i → Ex X PG (d + 1) 182 0 [some (.ref 256)] [] h' Q := by
    intro z
    induction z with
    | zero => intro m h' e m0 m1; omega
    | succ z ih =>
      intro m h' e m0 m1 em F er
      refine r182_0 (F.C C) ?_
      rw [em]
      refine m178 (L := L) (tp := tp) (F.C C) (by omega) ((F.a 257 (fun k => by unfold TNx; omega)).trans et) ((F.f 256 1 (by unfold TNx; omega)).trans eL) hL.2 (by omega) ⟨_, bI_rg _, rfl, SH.rf, fun c => ?_, fun c => ?_⟩
      · have n : ¬ (m < L ∧ leP (tp m)) := fun z => by rw [bI_pos z] at c; omega
        refine k h' F ?_
        rw [em, ← er, rn_no m0 hL.2 n]
      · have y : m < L ∧ leP (tp m) := Classical.byContradiction fun z => c (bI_neg z)
        rw [em]
        refine ih (m + 1) _ (by omega) (by omega) (by omega) (fI_wF_eq (by omega)) (F.wF ⟨rfl, rfl⟩) ?_
        rw [← er]; exact (rn_s m0 hL.2 y).symm
  exact lp (401 - i).toNat i h (by omega) hi.1 hi.2 ei Fr.rf rfl
theorem RkC.fr {T : Nat → Nat → Prop} {h h' : AH} {tp : Int → Int} {L j f : Int} (K : RkC h tp L j f) (F : Fr T h h') (n : ∀ k, ¬ T 257 k) (n1 : ¬ T 256 1) (n8 : ¬ T 256 8) (n9 : ¬ T 256 9) : RkC h' tp L j f := by
  obtain ⟨e1, e2, e3, e4, e5⟩ := K
  unfold RkC
  rw [F.a 257 n, F.f 256 1 n1, F.f 256 8 n8, F.f 256 9 n9]
  exact ⟨e1, e2, e3, e4, e5⟩
theorem RkC.nx {h h' : AH} {tp : Int → Int} {L j f i : Int} (K : RkC h tp L j f) (F : Fr TNx h h') (e : fI h' 256 8 = i) (hi : 0 ≤ i ∧ i ≤ L) : RkC h' tp L (skp tp L i) f := by
  obtain ⟨e1, e2, e3, e4, e5⟩ := K
  unfold RkC
  rw [F.a 257 (fun k => by unfold TNx; omega), F.f 256 1 (by unfold TNx; omega), F.f 256 9 (by unfold TNx; omega), e]
  exact ⟨e1, e2, hi, rfl, e5⟩
/-- a word at the place is passed over -/
theorem m182w {X : Cst} {d : Nat} {L j f : Int} {tp : Int → Int} {h : AH} {Q : Post} (C : Lay h) (hd : 2 ≤ d) (K : RkC h tp L j f) (e8 : fI h 256 8 = j) (l : j < L ∧ leP (tp j)) (k : ∀ h', Fr TNx h h' → RkC h' tp L (nx tp L j) f → Q none h') : Ex X PG d 182 0 [some (.ref 256)] [] h Q := by
  have kj := K.j
  refine m182 (L := L) (tp := tp) (i := j) C hd K.1 K.2.1.1 K.2.1.2 e8 (by omega) (fun h' F e => k h' F ?_)
  have b := tkS_b (tp := tp) (L := L) (j := j) (by omega) (by omega)
  have es : tkS tp L j = rn tp L leP j := by
    unfold tkS; rw [pI_neg (by omega), pI_neg (by have := l.2; unfold leP at this; unfold dgP; omega), pI_pos l.2]
  have := K.nx F e (by omega)
  unfold nx
  rw [es]; exact this
-- OutwardDoorsModel.isWord(J)Z at 0
set_option maxRecDepth 20000 in
set_option maxHeartbeats 4000000 in
theorem r177_0 {X : Cst} {d : Nat} {x1 : Int64} {h : AH} {Q : Post} (C_h : Lay h)
  (w : Ex X PG d 175 0 [some (.ref 256)] [] h (fun v1 h2 => ∃ r3 : Int, (-2147483648 ≤ r3 ∧ r3 < 2147483648) ∧ v1 = some (.int (J r3)) ∧ SH h h2 ∧ Ex X PG (d + 1) 177 10 [some (.ref 256), some (.long x1), none, some (.long (0 : Int64)), none, some (.int (J 0))] [] h2 Q)) :
    Ex X PG (d + 1) 177 0 [some (.ref 256), some (.long x1), none, none, none, none] [] h Q := by
  refine wpx_ok (cut := [10]) 7 d 177 0 _ _ _ _ ?_
  show hs h 256 = (0, 11) ∧ Ex X PG d 175 0 [some (.ref 256)] [] h (fun v1 h2 => ∃ r3, v1 = some (.int r3) ∧ Ex X PG (d + 1) 177 10 [some (.ref 256), some (.long x1), none, some (.long (0 : Int64)), none, some (.int (J 0))] [] h2 Q)
  try simp only [aI_wAL, fI_wAL, aL_wA, aL_wF, aI_wA_ne, aI_wF_ne, fI_wA_ne, fI_wF_ne, fI_wF_nk, aL_wAL_ne, J_sameA, J_sameF, aL_same, Nat.add_left_cancel_iff, Nat.add_eq_left, Nat.left_eq_add, not_false_eq_true, Nat.reduceEqDiff, Nat.reduceAdd, J_add, J_sub, J_mul, J_neg, J_and, J_or, J_xor, J_shl, J_shr, J_div, J_i2b, J_i2l, J_l2i, J_lcm, J_max, J_min, J_nab, J_nao, rdA, rdF, rdL, wA_fold, wF_fold, wL_fold, wC_fold]
  refine ⟨(ls256 C_h), ?_⟩
  refine Ex.mono w (Nat.le_refl _) ?_
  rintro v1 h2 ⟨r3, gr3, rfl, s4, w⟩
  refine ⟨_, rfl, ?_⟩
  have C_h2 := Lay_SH s4 C_h
  try simp only [aI_wAL, fI_wAL, aL_wA, aL_wF, aI_wA_ne, aI_wF_ne, fI_wA_ne, fI_wF_ne, fI_wF_nk, aL_wAL_ne, J_sameA, J_sameF, aL_same, Nat.add_left_cancel_iff, Nat.add_eq_left, Nat.left_eq_add, not_false_eq_true, Nat.reduceEqDiff, Nat.reduceAdd, J_add, J_sub, J_mul, J_neg, J_and, J_or, J_xor, J_shl, J_shr, J_div, J_i2b, J_i2l, J_l2i, J_lcm, J_max, J_min, J_nab, J_nao, rdA, rdF, rdL, wA_fold, wF_fold, wL_fold, wC_fold]
  exact w
-- OutwardDoorsModel.isWord(J)Z at 10
set_option maxRecDepth 20000 in
set_option maxHeartbeats 4000000 in
theorem r177_10 {X : Cst} {d : Nat} {x1 : Int64} {x3 : Int64} {x5 : Int} {h : AH} {Q : Post} (C_h : Lay h)
  (w : Ex X PG d 178 0 [some (.ref 256), some (.int (J ((fI h 256 8) + x5)))] [] h (fun v1 h2 => ∃ r3 : Int, (-2147483648 ≤ r3 ∧ r3 < 2147483648) ∧ v1 = some (.int (J r3)) ∧ SH h h2 ∧ ((r3 = 0 → (-2147483648 ≤ x5 ∧ x5 < 2147483648) ∧ ((x5 ≤ 0 → Q (some (.int (J 0))) h2) ∧ (¬ x5 ≤ 0 → ((8 ≤ x5 → Q (some (.int (J 0))) h2) ∧ (¬ 8 ≤ x5 → ((¬ lcm x3 x1 = 0 → Q (some (.int (J 0))) h2) ∧ (lcm x3 x1 = 0 → Q (some (.int (J 1))) h2))))))) ∧ (¬ r3 = 0 → (-2147483648 ≤ x5 ∧ x5 < 2147483648) ∧ ((8 ≤ x5 → Ex X PG (d + 1) 177 10 [some (.ref 256), some (.long x1), none, some (.long x3), none, some (.int (J (x5 + 1)))] [] h2 Q) ∧ (¬ 8 ≤ x5 → (0 ≤ (fI h2 256 8) + x5 ∧ (fI h2 256 8) + x5 < 400) ∧ Ex X PG (d + 1) 177 10 [some (.ref 256), some (.long x1), none, some (.long ((x3 <<< (i2l 8 &&& 63)) ||| (i2l (aI h2 257 ((fI h2 256 8) + x5))))), none, some (.int (J (x5 + 1)))] [] h2 Q)))))) :
    Ex X PG (d + 1) 177 10 [some (.ref 256), some (.long x1), none, some (.long x3), none, some (.int (J x5))] [] h Q := by
  refine wpx_ok (cut := [10]) 25 d 177 10 _ _ _ _ ?_
  show hs h 256 = (0, 11) ∧ hs h 256 = (0, 11) ∧ Ex X PG d 178 0 [some (.ref 256), some (.int ((hF h 256 8) + (J x5)))] [] h (fun v1 h2 => ∃ r3, v1 = some (.int r3) ∧ ((r3 = (J 0) → (((J x5) ≤ (J 0) → (J 0 = J 0 ∨ J 0 = J 1) ∧ Q (some (.int (J 0))) h2) ∧ (¬ ((J x5) ≤ (J 0)) → (((J 8) ≤ (J x5) → (J 0 = J 0 ∨ J 0 = J 1) ∧ Q (some (.int (J 0))) h2) ∧ (¬ ((J 8) ≤ (J x5)) → ((¬ (lg_cmp x3 x1) = (J 0) → (J 0 = J 0 ∨ J 0 = J 1) ∧ Q (some (.int (J 0))) h2) ∧ (¬ (¬ (lg_cmp x3 x1) = (J 0)) → (J 1 = J 0 ∨ J 1 = J 1) ∧ Q (some (.int (J 1))) h2))))))) ∧ (¬ (r3 = (J 0)) → (((J 8) ≤ (J x5) → Ex X PG (d + 1) 177 10 [some (.ref 256), some (.long x1), none, some (.long x3), none, some (.int ((J x5) + (J 1)))] [] h2 Q) ∧ (¬ ((J 8) ≤ (J x5)) → hs h2 256 = (0, 11) ∧ ∃ q16, hR h2 256 0 = some q16 ∧ hs h2 256 = (0, 11) ∧ ((hs h2 q16).1 = 3 ∨ (hs h2 q16).1 = 4) ∧ ix ((hF h2 256 8) + (J x5)) (hs h2 q16).2 ∧ Ex X PG (d + 1) 177 10 [some (.ref 256), some (.long x1), none, some (.long ((x3 <<< ((J 8).toInt64 &&& 63)) ||| (Int32.toInt64 (hI h2 q16 (Int32.toNatClampNeg ((hF h2 256 8) + (J x5))))))), none, some (.int ((J x5) + (J 1)))] [] h2 Q)))))
  try simp only [aI_wAL, fI_wAL, aL_wA, aL_wF, aI_wA_ne, aI_wF_ne, fI_wA_ne, fI_wF_ne, fI_wF_nk, aL_wAL_ne, J_sameA, J_sameF, aL_same, Nat.add_left_cancel_iff, Nat.add_eq_left, Nat.left_eq_add, not_false_eq_true, Nat.reduceEqDiff, Nat.reduceAdd, J_add, J_sub, J_mul, J_neg, J_and, J_or, J_xor, J_shl, J_shr, J_div, J_i2b, J_i2l, J_l2i, J_lcm, J_max, J_min, J_nab, J_nao, rdA, rdF, rdL, wA_fold, wF_fold, wL_fold, wC_fold]
  refine ⟨(ls256 C_h), ?_⟩
  refine ⟨(ls256 C_h), ?_⟩
  refine Ex.mono w (Nat.le_refl _) ?_
  rintro v1 h2 ⟨r3, gr3, rfl, s18, w⟩
  refine ⟨_, rfl, ?_⟩
  have C_h2 := Lay_SH s18 C_h
  try simp only [aI_wAL, fI_wAL, aL_wA, aL_wF, aI_wA_ne, aI_wF_ne, fI_wA_ne, fI_wF_ne, fI_wF_nk, aL_wAL_ne, J_sameA, J_sameF, aL_same, Nat.add_left_cancel_iff, Nat.add_eq_left, Nat.left_eq_add, not_false_eq_true, Nat.reduceEqDiff, Nat.reduceAdd, J_add, J_sub, J_mul, J_neg, J_and, J_or, J_xor, J_shl, J_shr, J_div, J_i2b, J_i2l, J_l2i, J_lcm, J_max, J_min, J_nab, J_nao, rdA, rdF, rdL, wA_fold, wF_fold, wL_fold, wC_fold]
  refine ⟨fun c4 => ?_, fun c4 => ?_⟩
  · have t5 : r3 = 0 := ((Jeq gr3 (by decide)).mp c4)
    replace w := w.1 t5
    obtain ⟨k8, w⟩ := w
    refine ⟨fun c6 => ?_, fun c6 => ?_⟩
    · have t7 : x5 ≤ 0 := ((Jle k8 (by decide)).mp c6)
      replace w := w.1 t7
      exact ⟨(Or.inl (by trivial)), w⟩
    · have t7 : ¬ x5 ≤ 0 := (fun e => c6 ((Jle k8 (by decide)).mpr e))
      replace w := w.2 t7
      refine ⟨fun c9 => ?_, fun c9 => ?_⟩
      · have t10 : 8 ≤ x5 := ((Jle (by decide) k8).mp c9)
        replace w := w.1 t10
        exact ⟨(Or.inl (by trivial)), w⟩
      · have t10 : ¬ 8 ≤ x5 := (fun e => c9 ((Jle (by decide) k8).mpr e))
        replace w := w.2 t10
        refine ⟨fun c11 => ?_, fun c11 => ?_⟩
        · have t12 : ¬ lcm x3 x1 = 0 := (fun e => c11 ((Jeq (rg_toInt _) (by decide)).mpr e))
          replace w := w.1 t12
          exact ⟨(Or.inl (by trivial)), w⟩
        · have t12 : lcm x3 x1 = 0 := ((Jeq (rg_toInt _) (by decide)).mp (Classical.byContradiction c11))
          replace w := w.2 t12
          exact ⟨(Or.inr (by trivial)), w⟩
  · have t5 : ¬ r3 = 0 := (fun e => c4 ((Jeq gr3 (by decide)).mpr e))
    replace w := w.2 t5
    obtain ⟨k15, w⟩ := w
    refine ⟨fun c13 => ?_, fun c13 => ?_⟩
    · have t14 : 8 ≤ x5 := ((Jle (by decide) k15).mp c13)
      replace w := w.1 t14
      exact w
    · have t14 : ¬ 8 ≤ x5 := (fun e => c13 ((Jle (by decide) k15).mpr e))
      replace w := w.2 t14
      refine ⟨(ls256 C_h2), _, (lr256_0 C_h2), ?_⟩
      refine ⟨(ls256 C_h2), ?_⟩
      obtain ⟨k17, w⟩ := w
      refine ⟨Or.inl (congrArg Prod.fst (ls257 C_h2)), ixs (ls257 C_h2) k17 (by decide), ?_⟩
      exact w
theorem m177 {X : Cst} {d : Nat} {x : Int64} {w L j f : Int} {tp : Int → Int} {h : AH} {Q : Post} (C : Lay h) (hd : 2 ≤ d) (K : RkC h tp L j f) (hx : x.toInt = w) (hw : 0 < w ∧ w < 72057594037927936) (k : ∀ h', Fr TNx h h' → RkC h' tp L j f → fI h' 256 8 = j → Q (some (.int (J (bI (wc tp L j = w))))) h') : Ex X PG d 177 0 [some (.ref 256), some (.long x), none, none, none, none] [] h Q := by
  obtain ⟨d, rfl⟩ : ∃ e, d = e + 1 := ⟨d - 1, by omega⟩
  refine r177_0 C ?_
  refine m175 C (by omega) K (fun h2 F K2 e8 => ?_)
  have sr : -2147483648 ≤ seeV tp L j ∧ seeV tp L j < 2147483648 := by
    unfold seeV
    by_cases c : j < L
    · rw [pI_pos c]; exact rg_toInt _
    · rw [pI_neg c]; omega
  refine ⟨_, sr, rfl, F.1, ?_⟩
  have kj := K2.j
  have b := rn_b (tp := tp) (L := L) (P := leP) kj.1
  have lp : ∀ (z n : Nat) (v : Int64), (rn tp L leP j - j).toNat - n = z → (n : Int) ≤ rn tp L leP j - j → (n ≤ 7 → v = Int64.ofInt (cdN (fun k => tp (j + k)) n)) → Ex X PG (d + 1) 177 10 [some (.ref 256), some (.long x), none, some (.long v), none, some (.int (J n))] [] h2 Q := by
    intro z
    induction z with
    | zero =>
      intro n v ez hn hv
      refine r177_10 (F.C C) ?_
      have ee : j + (n : Int) = rn tp L leP j := by omega
      rw [e8, ee]
      refine m178 (L := L) (tp := tp) (F.C C) (by omega) K2.1 K2.2.1.1 kj.2.2.1 (by omega) ⟨_, bI_rg _, rfl, SH.rf, fun c => ?_, fun c => absurd (bI_neg (rn_e kj.1 kj.2.2.1)) c⟩
      have q := k h2 F K2 e8
      refine ⟨by omega, fun c1 => ?_, fun c1 => ⟨fun c2 => ?_, fun c2 => ?_⟩⟩
      · rw [bI_neg (fun e => by unfold wc at e; rw [if_neg (by omega)] at e; omega)] at q; exact q
      · rw [bI_neg (fun e => by unfold wc at e; rw [if_neg (by omega)] at e; omega)] at q; exact q
      · have cb := cdN_b (f := fun k => tp (j + k)) n (fun k hk => by have := (b.2.2 (j + k) (by omega) (by omega)).2; unfold leP at this; omega)
        have p7 : (256 : Int) ^ n ≤ 72057594037927936 := by
          have : n = 0 ∨ n = 1 ∨ n = 2 ∨ n = 3 ∨ n = 4 ∨ n = 5 ∨ n = 6 ∨ n = 7 := by omega
          rcases this with e | e | e | e | e | e | e | e <;> rw [e] <;> decide
        have wv : wc tp L j = cdN (fun k => tp (j + k)) n := by
          unfold wc; rw [if_pos (by omega), show (rn tp L leP j - j).toNat = n by omega]
        have vt : v.toInt = wc tp L j := by rw [hv (by omega), wv, Int64.toInt_ofInt_of_le (by omega) (by omega)]
        have iff : lcm v x = 0 ↔ wc tp L j = w := by
          rw [lcm_eq0, ← Int64.toInt_inj, vt, hx]
        refine ⟨fun c3 => ?_, fun c3 => ?_⟩
        · rw [bI_neg (fun e => c3 (iff.mpr e))] at q; exact q
        · rw [bI_pos (iff.mp c3)] at q; exact q
    | succ z ih =>
      intro n v ez hn hv
      refine r177_10 (F.C C) ?_
      have le := b.2.2 (j + n) (by omega) (by omega)
      rw [e8]
      refine m178 (L := L) (tp := tp) (F.C C) (by omega) K2.1 K2.2.1.1 kj.2.2.1 (by omega) ⟨_, bI_rg _, rfl, SH.rf, fun c => absurd c (by rw [bI_pos le]; decide), fun c => ?_⟩
      rw [e8, K2.1]
      refine ⟨by omega, fun c1 => ?_, fun c1 => ⟨by omega, ?_⟩⟩
      · exact ih (n + 1) v (by omega) (by omega) (fun h => by omega)
      · refine ih (n + 1) _ (by omega) (by omega) (fun h7 => ?_)
        have cb := cdN_b (f := fun k => tp (j + k)) n (fun k hk => by have := (b.2.2 (j + k) (by omega) (by omega)).2; unfold leP at this; omega)
        have p6 : (256 : Int) ^ n ≤ 281474976710656 := by
          have : n = 0 ∨ n = 1 ∨ n = 2 ∨ n = 3 ∨ n = 4 ∨ n = 5 ∨ n = 6 := by omega
          rcases this with e | e | e | e | e | e | e <;> rw [e] <;> decide
        have l2 := le.2
        unfold leP at l2
        rw [hv (by omega), sh8 (by omega) (by omega)]
        rfl
  exact lp _ 0 0 rfl (by omega) (fun _ => rfl)
-- OutwardDoorsModel.fails(II)Z at 0
set_option maxRecDepth 20000 in
set_option maxHeartbeats 4000000 in
theorem r179_0 {X : Cst} {d : Nat} {x1 : Int} {x2 : Int} {h : AH} {Q : Post} (C_h : Lay h)
  (w : ((¬ fI h 256 9 = 0 → Q (some (.int (J 0))) h) ∧ (fI h 256 9 = 0 → Q (some (.int (J 0))) (wF h 256 9 ((1 + (8 * x2)) + x1))))) :
    Ex X PG (d + 1) 179 0 [some (.ref 256), some (.int (J x1)), some (.int (J x2))] [] h Q := by
  refine wpx_ok (cut := []) 14 d 179 0 _ _ _ _ ?_
  show hs h 256 = (0, 11) ∧ ((¬ (hF h 256 9) = (J 0) → (J 0 = J 0 ∨ J 0 = J 1) ∧ Q (some (.int (J 0))) h) ∧ (¬ (¬ (hF h 256 9) = (J 0)) → hs h 256 = (0, 11) ∧ (J 0 = J 0 ∨ J 0 = J 1) ∧ Q (some (.int (J 0))) (wG h 256 9 (((J 1) + ((J 8) * (J x2))) + (J x1)))))
  try simp only [aI_wAL, fI_wAL, aL_wA, aL_wF, aI_wA_ne, aI_wF_ne, fI_wA_ne, fI_wF_ne, fI_wF_nk, aL_wAL_ne, J_sameA, J_sameF, aL_same, Nat.add_left_cancel_iff, Nat.add_eq_left, Nat.left_eq_add, not_false_eq_true, Nat.reduceEqDiff, Nat.reduceAdd, J_add, J_sub, J_mul, J_neg, J_and, J_or, J_xor, J_shl, J_shr, J_div, J_i2b, J_i2l, J_l2i, J_lcm, J_max, J_min, J_nab, J_nao, rdA, rdF, rdL, wA_fold, wF_fold, wL_fold, wC_fold]
  refine ⟨(ls256 C_h), ?_⟩
  refine ⟨fun c1 => ?_, fun c1 => ?_⟩
  · have t2 : ¬ fI h 256 9 = 0 := (fun e => c1 ((Jeq (rg_toInt _) (by decide)).mpr e))
    replace w := w.1 t2
    exact ⟨(Or.inl (by trivial)), w⟩
  · have t2 : fI h 256 9 = 0 := ((Jeq (rg_toInt _) (by decide)).mp (Classical.byContradiction c1))
    replace w := w.2 t2
    refine ⟨(ls256 C_h), ?_⟩
    exact ⟨(Or.inl (by trivial)), w⟩
theorem m179 {X : Cst} {d : Nat} {q a : Int} {h : AH} {Q : Post} (C : Lay h) (hd : 1 ≤ d) (e9 : fI h 256 9 = 0) (k : Q (some (.int (J 0))) (wF h 256 9 (1 + 8 * a + q))) : Ex X PG d 179 0 [some (.ref 256), some (.int (J q)), some (.int (J a))] [] h Q := by
  obtain ⟨d, rfl⟩ : ∃ e, d = e + 1 := ⟨d - 1, by omega⟩
  exact r179_0 C ⟨fun c => absurd e9 c, fun _ => k⟩
-- OutwardDoorsModel.takesWord(J)Z at 0
set_option maxRecDepth 20000 in
set_option maxHeartbeats 4000000 in
theorem r198_0 {X : Cst} {d : Nat} {x1 : Int64} {h : AH} {Q : Post} (C_h : Lay h)
  (w : Ex X PG d 177 0 [some (.ref 256), some (.long x1), none, none, none, none] [] h (fun v1 h2 => ∃ r3 : Int, (-2147483648 ≤ r3 ∧ r3 < 2147483648) ∧ v1 = some (.int (J r3)) ∧ SH h h2 ∧ ((¬ r3 = 0 → Ex X PG d 182 0 [some (.ref 256)] [] h2 (fun v6 h7 => v6 = none ∧ SH h2 h7 ∧ Q (some (.int (J 1))) h7)) ∧ (r3 = 0 → Q (some (.int (J 0))) h2)))) :
    Ex X PG (d + 1) 198 0 [some (.ref 256), some (.long x1), none] [] h Q := by
  refine wpx_ok (cut := []) 8 d 198 0 _ _ _ _ ?_
  show hs h 256 = (0, 11) ∧ Ex X PG d 177 0 [some (.ref 256), some (.long x1), none, none, none, none] [] h (fun v1 h2 => ∃ r3, v1 = some (.int r3) ∧ ((¬ r3 = (J 0) → hs h2 256 = (0, 11) ∧ Ex X PG d 182 0 [some (.ref 256)] [] h2 (fun v6 h7 => v6 = none ∧ (J 1 = J 0 ∨ J 1 = J 1) ∧ Q (some (.int (J 1))) h7)) ∧ (¬ (¬ r3 = (J 0)) → (J 0 = J 0 ∨ J 0 = J 1) ∧ Q (some (.int (J 0))) h2)))
  try simp only [aI_wAL, fI_wAL, aL_wA, aL_wF, aI_wA_ne, aI_wF_ne, fI_wA_ne, fI_wF_ne, fI_wF_nk, aL_wAL_ne, J_sameA, J_sameF, aL_same, Nat.add_left_cancel_iff, Nat.add_eq_left, Nat.left_eq_add, not_false_eq_true, Nat.reduceEqDiff, Nat.reduceAdd, J_add, J_sub, J_mul, J_neg, J_and, J_or, J_xor, J_shl, J_shr, J_div, J_i2b, J_i2l, J_l2i, J_lcm, J_max, J_min, J_nab, J_nao, rdA, rdF, rdL, wA_fold, wF_fold, wL_fold, wC_fold]
  refine ⟨(ls256 C_h), ?_⟩
  refine Ex.mono w (Nat.le_refl _) ?_
  rintro v1 h2 ⟨r3, gr3, rfl, s9, w⟩
  refine ⟨_, rfl, ?_⟩
  have C_h2 := Lay_SH s9 C_h
  try simp only [aI_wAL, fI_wAL, aL_wA, aL_wF, aI_wA_ne, aI_wF_ne, fI_wA_ne, fI_wF_ne, fI_wF_nk, aL_wAL_ne, J_sameA, J_sameF, aL_same, Nat.add_left_cancel_iff, Nat.add_eq_left, Nat.left_eq_add, not_false_eq_true, Nat.reduceEqDiff, Nat.reduceAdd, J_add, J_sub, J_mul, J_neg, J_and, J_or, J_xor, J_shl, J_shr, J_div, J_i2b, J_i2l, J_l2i, J_lcm, J_max, J_min, J_nab, J_nao, rdA, rdF, rdL, wA_fold, wF_fold, wL_fold, wC_fold]
  refine ⟨fun c4 => ?_, fun c4 => ?_⟩
  · have t5 : ¬ r3 = 0 := (fun e => c4 ((Jeq gr3 (by decide)).mpr e))
    replace w := w.1 t5
    refine ⟨(ls256 C_h2), ?_⟩
    refine Ex.mono w (Nat.le_refl _) ?_
    rintro v6 h7 ⟨rfl, s8, w⟩
    refine ⟨rfl, ?_⟩
    have C_h7 := Lay_SH s8 C_h2
    try simp only [aI_wAL, fI_wAL, aL_wA, aL_wF, aI_wA_ne, aI_wF_ne, fI_wA_ne, fI_wF_ne, fI_wF_nk, aL_wAL_ne, J_sameA, J_sameF, aL_same, Nat.add_left_cancel_iff, Nat.add_eq_left, Nat.left_eq_add, not_false_eq_true, Nat.reduceEqDiff, Nat.reduceAdd, J_add, J_sub, J_mul, J_neg, J_and, J_or, J_xor, J_shl, J_shr, J_div, J_i2b, J_i2l, J_l2i, J_lcm, J_max, J_min, J_nab, J_nao, rdA, rdF, rdL, wA_fold, wF_fold, wL_fold, wC_fold]
    exact ⟨(Or.inr (by trivial)), w⟩
  · have t5 : r3 = 0 := ((Jeq gr3 (by decide)).mp (Classical.byContradiction c4))
    replace w := w.2 t5
    exact ⟨(Or.inl (by trivial)), w⟩
theorem m198 {X : Cst} {d : Nat} {x : Int64} {w L j f : Int} {tp : Int → Int} {h : AH} {Q : Post} (C : Lay h) (hd : 3 ≤ d) (K : RkC h tp L j f) (hx : x.toInt = w) (hw : 0 < w ∧ w < 72057594037927936) (k1 : wc tp L j = w → ∀ h', Fr TNx h h' → RkC h' tp L (nx tp L j) f → Q (some (.int (J 1))) h') (k0 : ¬ wc tp L j = w → ∀ h', Fr TNx h h' → RkC h' tp L j f → Q (some (.int (J 0))) h') : Ex X PG d 198 0 [some (.ref 256), some (.long x), none] [] h Q := by
  obtain ⟨d, rfl⟩ : ∃ e, d = e + 1 := ⟨d - 1, by omega⟩
  refine r198_0 C ?_
  refine m177 C (by omega) K hx hw (fun h2 F K2 e8 => ⟨_, bI_rg _, rfl, F.1, fun c => ?_, fun c => ?_⟩)
  · have y : wc tp L j = w := Classical.byContradiction fun z => c (bI_neg z)
    have kj := K2.j
    have wp := wc_pos kj.1 kj.2.1 hw.1 y
    exact m182w (F.C C) (by omega) K2 e8 ⟨wp.1, wp.2.1⟩ (fun h3 F3 K3 => ⟨rfl, F3.1, k1 y h3 (F.tr F3) K3⟩)
  · exact k0 (fun e => by rw [bI_pos e] at c; omega) h2 F K2
def TNm (c k : Nat) : Prop := c = 256 ∧ (k = 8 ∨ k = 9 ∨ k = 10)
theorem TNx_m {c k : Nat} (z : TNx c k) : TNm c k := by unfold TNx at z; unfold TNm; omega
def noB (_ : Int) : Prop := False
-- OutwardDoorsModel.numberHere(II)Z at 0
set_option maxRecDepth 20000 in
set_option maxHeartbeats 4000000 in
theorem r184_0 {X : Cst} {d : Nat} {x1 : Int} {x2 : Int} {h : AH} {Q : Post} (C_h : Lay h)
  (w : Ex X PG d 175 0 [some (.ref 256)] [] h (fun v1 h2 => ∃ r3 : Int, (-2147483648 ≤ r3 ∧ r3 < 2147483648) ∧ v1 = some (.int (J r3)) ∧ SH h h2 ∧ Ex X PG d 185 0 [some (.ref 256), some (.int (J (fI h2 256 8)))] [] h2 (fun v4 h5 => ∃ r6 : Int, (-2147483648 ≤ r6 ∧ r6 < 2147483648) ∧ v4 = some (.int (J r6)) ∧ SH h2 h5 ∧ ((¬ r6 = 0 → Ex X PG (d + 1) 184 34 [some (.ref 256), some (.int (J x1)), some (.int (J x2)), some (.int (J (fI h5 256 8))), some (.int (J 0))] [] h5 Q) ∧ (r6 = 0 → Ex X PG d 179 0 [some (.ref 256), some (.int (J 0)), some (.int (J (fI h5 256 8)))] [] h5 (fun v9 h10 => ∃ r11 : Int, (-2147483648 ≤ r11 ∧ r11 < 2147483648) ∧ v9 = some (.int (J r11)) ∧ SH h5 h10 ∧ (r11 = 0 ∨ r11 = 1) ∧ Q (some (.int (J r11))) h10)))))) :
    Ex X PG (d + 1) 184 0 [some (.ref 256), some (.int (J x1)), some (.int (J x2)), none, none] [] h Q := by
  refine wpx_ok (cut := [34]) 14 d 184 0 _ _ _ _ ?_
  show hs h 256 = (0, 11) ∧ Ex X PG d 175 0 [some (.ref 256)] [] h (fun v1 h2 => ∃ r3, v1 = some (.int r3) ∧ hs h2 256 = (0, 11) ∧ hs h2 256 = (0, 11) ∧ Ex X PG d 185 0 [some (.ref 256), some (.int (hF h2 256 8))] [] h2 (fun v4 h5 => ∃ r6, v4 = some (.int r6) ∧ ((¬ r6 = (J 0) → hs h5 256 = (0, 11) ∧ Ex X PG (d + 1) 184 34 [some (.ref 256), some (.int (J x1)), some (.int (J x2)), some (.int (hF h5 256 8)), some (.int (J 0))] [] h5 Q) ∧ (¬ (¬ r6 = (J 0)) → hs h5 256 = (0, 11) ∧ hs h5 256 = (0, 11) ∧ Ex X PG d 179 0 [some (.ref 256), some (.int (J 0)), some (.int (hF h5 256 8))] [] h5 (fun v9 h10 => ∃ r11, v9 = some (.int r11) ∧ (r11 = J 0 ∨ r11 = J 1) ∧ Q (some (.int r11)) h10)))))
  try simp only [aI_wAL, fI_wAL, aL_wA, aL_wF, aI_wA_ne, aI_wF_ne, fI_wA_ne, fI_wF_ne, fI_wF_nk, aL_wAL_ne, J_sameA, J_sameF, aL_same, Nat.add_left_cancel_iff, Nat.add_eq_left, Nat.left_eq_add, not_false_eq_true, Nat.reduceEqDiff, Nat.reduceAdd, J_add, J_sub, J_mul, J_neg, J_and, J_or, J_xor, J_shl, J_shr, J_div, J_i2b, J_i2l, J_l2i, J_lcm, J_max, J_min, J_nab, J_nao, rdA, rdF, rdL, wA_fold, wF_fold, wL_fold, wC_fold]
  refine ⟨(ls256 C_h), ?_⟩
  refine Ex.mono w (Nat.le_refl _) ?_
  rintro v1 h2 ⟨r3, gr3, rfl, s15, w⟩
  refine ⟨_, rfl, ?_⟩
  have C_h2 := Lay_SH s15 C_h
  try simp only [aI_wAL, fI_wAL, aL_wA, aL_wF, aI_wA_ne, aI_wF_ne, fI_wA_ne, fI_wF_ne, fI_wF_nk, aL_wAL_ne, J_sameA, J_sameF, aL_same, Nat.add_left_cancel_iff, Nat.add_eq_left, Nat.left_eq_add, not_false_eq_true, Nat.reduceEqDiff, Nat.reduceAdd, J_add, J_sub, J_mul, J_neg, J_and, J_or, J_xor, J_shl, J_shr, J_div, J_i2b, J_i2l, J_l2i, J_lcm, J_max, J_min, J_nab, J_nao, rdA, rdF, rdL, wA_fold, wF_fold, wL_fold, wC_fold]
  refine ⟨(ls256 C_h2), ?_⟩
  refine ⟨(ls256 C_h2), ?_⟩
  refine Ex.mono w (Nat.le_refl _) ?_
  rintro v4 h5 ⟨r6, gr6, rfl, s14, w⟩
  refine ⟨_, rfl, ?_⟩
  have C_h5 := Lay_SH s14 C_h2
  try simp only [aI_wAL, fI_wAL, aL_wA, aL_wF, aI_wA_ne, aI_wF_ne, fI_wA_ne, fI_wF_ne, fI_wF_nk, aL_wAL_ne, J_sameA, J_sameF, aL_same, Nat.add_left_cancel_iff, Nat.add_eq_left, Nat.left_eq_add, not_false_eq_true, Nat.reduceEqDiff, Nat.reduceAdd, J_add, J_sub, J_mul, J_neg, J_and, J_or, J_xor, J_shl, J_shr, J_div, J_i2b, J_i2l, J_l2i, J_lcm, J_max, J_min, J_nab, J_nao, rdA, rdF, rdL, wA_fold, wF_fold, wL_fold, wC_fold]
  refine ⟨fun c7 => ?_, fun c7 => ?_⟩
  · have t8 : ¬ r6 = 0 := (fun e => c7 ((Jeq gr6 (by decide)).mpr e))
    replace w := w.1 t8
    refine ⟨(ls256 C_h5), ?_⟩
    exact w
  · have t8 : r6 = 0 := ((Jeq gr6 (by decide)).mp (Classical.byContradiction c7))
    replace w := w.2 t8
    refine ⟨(ls256 C_h5), ?_⟩
    refine ⟨(ls256 C_h5), ?_⟩
    refine Ex.mono w (Nat.le_refl _) ?_
    rintro v9 h10 ⟨r11, gr11, rfl, s13, w⟩
    refine ⟨_, rfl, ?_⟩
    have C_h10 := Lay_SH s13 C_h5
    try simp only [aI_wAL, fI_wAL, aL_wA, aL_wF, aI_wA_ne, aI_wF_ne, fI_wA_ne, fI_wF_ne, fI_wF_nk, aL_wAL_ne, J_sameA, J_sameF, aL_same, Nat.add_left_cancel_iff, Nat.add_eq_left, Nat.left_eq_add, not_false_eq_true, Nat.reduceEqDiff, Nat.reduceAdd, J_add, J_sub, J_mul, J_neg, J_and, J_or, J_xor, J_shl, J_shr, J_div, J_i2b, J_i2l, J_l2i, J_lcm, J_max, J_min, J_nab, J_nao, rdA, rdF, rdL, wA_fold, wF_fold, wL_fold, wC_fold]
    obtain ⟨k12, w⟩ := w
    exact ⟨(k12.imp (congrArg J) (congrArg J)), w⟩
-- OutwardDoorsModel.numberHere(II)Z at 34
set_option maxRecDepth 20000 in
set_option maxHeartbeats 4000000 in
theorem r184_34 {X : Cst} {d : Nat} {x1 : Int} {x2 : Int} {x3 : Int} {x4 : Int} {h : AH} {Q : Post} (C_h : Lay h) (hd : 1 ≤ d)
  (w : Ex X PG d 185 0 [some (.ref 256), some (.int (J (fI h 256 8)))] [] h (fun v1 h2 => ∃ r3 : Int, (-2147483648 ≤ r3 ∧ r3 < 2147483648) ∧ v1 = some (.int (J r3)) ∧ SH h h2 ∧ ((r3 = 0 → (-2147483648 ≤ (fI h2 256 8) - x3 ∧ (fI h2 256 8) - x3 < 2147483648) ∧ ((5 < (fI h2 256 8) - x3 → Ex X PG d 179 0 [some (.ref 256), some (.int (J 1)), some (.int (J x3))] [] (wF h2 256 10 x4) (fun v9 h10 => ∃ r11 : Int, (-2147483648 ≤ r11 ∧ r11 < 2147483648) ∧ v9 = some (.int (J r11)) ∧ SH (wF h2 256 10 x4) h10 ∧ ((r11 = 0 → Q (some (.int (J 0))) h10) ∧ (¬ r11 = 0 → Q (some (.int (J 1))) h10)))) ∧ (¬ 5 < (fI h2 256 8) - x3 → (-2147483648 ≤ x4 ∧ x4 < 2147483648) ∧ (-2147483648 ≤ x1 ∧ x1 < 2147483648) ∧ (-2147483648 ≤ x2 ∧ x2 < 2147483648) ∧ (((x1 ≤ x4 ∧ x4 ≤ x2) → Q (some (.int (J 1))) (wF h2 256 10 x4)) ∧ (¬ (x1 ≤ x4 ∧ x4 ≤ x2) → Ex X PG d 179 0 [some (.ref 256), some (.int (J 1)), some (.int (J x3))] [] (wF h2 256 10 x4) (fun v23 h24 => ∃ r25 : Int, (-2147483648 ≤ r25 ∧ r25 < 2147483648) ∧ v23 = some (.int (J r25)) ∧ SH (wF h2 256 10 x4) h24 ∧ ((r25 = 0 → Q (some (.int (J 0))) h24) ∧ (¬ r25 = 0 → Q (some (.int (J 1))) h24)))))))) ∧ (¬ r3 = 0 → (-2147483648 ≤ (fI h2 256 8) - x3 ∧ (fI h2 256 8) - x3 < 2147483648) ∧ ((5 ≤ (fI h2 256 8) - x3 → Ex X PG (d + 1) 184 34 [some (.ref 256), some (.int (J x1)), some (.int (J x2)), some (.int (J x3)), some (.int (J x4))] [] (wF h2 256 8 ((fI h2 256 8) + 1)) Q) ∧ (¬ 5 ≤ (fI h2 256 8) - x3 → (0 ≤ fI h2 256 8 ∧ fI h2 256 8 < 400) ∧ Ex X PG (d + 1) 184 34 [some (.ref 256), some (.int (J x1)), some (.int (J x2)), some (.int (J x3)), some (.int (J (((10 * x4) + (aI h2 257 (fI h2 256 8))) - 48)))] [] (wF h2 256 8 ((fI h2 256 8) + 1)) Q)))))) :
    Ex X PG (d + 1) 184 34 [some (.ref 256), some (.int (J x1)), some (.int (J x2)), some (.int (J x3)), some (.int (J x4))] [] h Q := by
  refine wpx_ok (cut := [34]) 30 d 184 34 _ _ _ _ ?_
  show hs h 256 = (0, 11) ∧ hs h 256 = (0, 11) ∧ Ex X PG d 185 0 [some (.ref 256), some (.int (hF h 256 8))] [] h (fun v1 h2 => ∃ r3, v1 = some (.int r3) ∧ ((r3 = (J 0) → hs h2 256 = (0, 11) ∧ hs (wG h2 256 10 (J x4)) 256 = (0, 11) ∧ (((J 5) < ((hF (wG h2 256 10 (J x4)) 256 8) - (J x3)) → hs (wG h2 256 10 (J x4)) 256 = (0, 11) ∧ Ex X PG d 179 0 [some (.ref 256), some (.int (J 1)), some (.int (J x3))] [] (wG h2 256 10 (J x4)) (fun v9 h10 => ∃ r11, v9 = some (.int r11) ∧ ((r11 = (J 0) → (J 0 = J 0 ∨ J 0 = J 1) ∧ Q (some (.int (J 0))) h10) ∧ (¬ (r11 = (J 0)) → (J 1 = J 0 ∨ J 1 = J 1) ∧ Q (some (.int (J 1))) h10)))) ∧ (¬ ((J 5) < ((hF (wG h2 256 10 (J x4)) 256 8) - (J x3))) → Ex X PG d 186 0 [some (.long (Int32.toInt64 (J x4))), none, some (.long (Int32.toInt64 (J x1))), none, some (.long (Int32.toInt64 (J x2))), none] [] (wG h2 256 10 (J x4)) (fun v15 h16 => ∃ r17, v15 = some (.int r17) ∧ ((¬ r17 = (J 0) → (J 1 = J 0 ∨ J 1 = J 1) ∧ Q (some (.int (J 1))) h16) ∧ (¬ (¬ r17 = (J 0)) → hs h16 256 = (0, 11) ∧ Ex X PG d 179 0 [some (.ref 256), some (.int (J 1)), some (.int (J x3))] [] h16 (fun v23 h24 => ∃ r25, v23 = some (.int r25) ∧ ((r25 = (J 0) → (J 0 = J 0 ∨ J 0 = J 1) ∧ Q (some (.int (J 0))) h24) ∧ (¬ (r25 = (J 0)) → (J 1 = J 0 ∨ J 1 = J 1) ∧ Q (some (.int (J 1))) h24))))))))) ∧ (¬ (r3 = (J 0)) → hs h2 256 = (0, 11) ∧ (((J 5) ≤ ((hF h2 256 8) - (J x3)) → hs h2 256 = (0, 11) ∧ hs h2 256 = (0, 11) ∧ Ex X PG (d + 1) 184 34 [some (.ref 256), some (.int (J x1)), some (.int (J x2)), some (.int (J x3)), some (.int (J x4))] [] (wG h2 256 8 ((hF h2 256 8) + (J 1))) Q) ∧ (¬ ((J 5) ≤ ((hF h2 256 8) - (J x3))) → hs h2 256 = (0, 11) ∧ ∃ q32, hR h2 256 0 = some q32 ∧ hs h2 256 = (0, 11) ∧ ((hs h2 q32).1 = 3 ∨ (hs h2 q32).1 = 4) ∧ ix (hF h2 256 8) (hs h2 q32).2 ∧ hs h2 256 = (0, 11) ∧ hs h2 256 = (0, 11) ∧ Ex X PG (d + 1) 184 34 [some (.ref 256), some (.int (J x1)), some (.int (J x2)), some (.int (J x3)), some (.int ((((J 10) * (J x4)) + (hI h2 q32 (Int32.toNatClampNeg (hF h2 256 8)))) - (J 48)))] [] (wG h2 256 8 ((hF h2 256 8) + (J 1))) Q)))))
  try simp only [aI_wAL, fI_wAL, aL_wA, aL_wF, aI_wA_ne, aI_wF_ne, fI_wA_ne, fI_wF_ne, fI_wF_nk, aL_wAL_ne, J_sameA, J_sameF, aL_same, Nat.add_left_cancel_iff, Nat.add_eq_left, Nat.left_eq_add, not_false_eq_true, Nat.reduceEqDiff, Nat.reduceAdd, J_add, J_sub, J_mul, J_neg, J_and, J_or, J_xor, J_shl, J_shr, J_div, J_i2b, J_i2l, J_l2i, J_lcm, J_max, J_min, J_nab, J_nao, rdA, rdF, rdL, wA_fold, wF_fold, wL_fold, wC_fold]
  refine ⟨(ls256 C_h), ?_⟩
  refine ⟨(ls256 C_h), ?_⟩
  refine Ex.mono w (Nat.le_refl _) ?_
  rintro v1 h2 ⟨r3, gr3, rfl, s34, w⟩
  refine ⟨_, rfl, ?_⟩
  have C_h2 := Lay_SH s34 C_h
  try simp only [aI_wAL, fI_wAL, aL_wA, aL_wF, aI_wA_ne, aI_wF_ne, fI_wA_ne, fI_wF_ne, fI_wF_nk, aL_wAL_ne, J_sameA, J_sameF, aL_same, Nat.add_left_cancel_iff, Nat.add_eq_left, Nat.left_eq_add, not_false_eq_true, Nat.reduceEqDiff, Nat.reduceAdd, J_add, J_sub, J_mul, J_neg, J_and, J_or, J_xor, J_shl, J_shr, J_div, J_i2b, J_i2l, J_l2i, J_lcm, J_max, J_min, J_nab, J_nao, rdA, rdF, rdL, wA_fold, wF_fold, wL_fold, wC_fold]
  refine ⟨fun c4 => ?_, fun c4 => ?_⟩
  · have t5 : r3 = 0 := ((Jeq gr3 (by decide)).mp c4)
    replace w := w.1 t5
    refine ⟨(ls256 C_h2), ?_⟩
    refine ⟨(ls256 C_h2), ?_⟩
    obtain ⟨k8, w⟩ := w
    refine ⟨fun c6 => ?_, fun c6 => ?_⟩
    · have t7 : 5 < (fI h2 256 8) - x3 := ((Jlt (by decide) k8).mp c6)
      replace w := w.1 t7
      refine ⟨(ls256 C_h2), ?_⟩
      refine Ex.mono w (Nat.le_refl _) ?_
      rintro v9 h10 ⟨r11, gr11, rfl, s14, w⟩
      refine ⟨_, rfl, ?_⟩
      have C_h10 := Lay_SH s14 C_h2
      try simp only [aI_wAL, fI_wAL, aL_wA, aL_wF, aI_wA_ne, aI_wF_ne, fI_wA_ne, fI_wF_ne, fI_wF_nk, aL_wAL_ne, J_sameA, J_sameF, aL_same, Nat.add_left_cancel_iff, Nat.add_eq_left, Nat.left_eq_add, not_false_eq_true, Nat.reduceEqDiff, Nat.reduceAdd, J_add, J_sub, J_mul, J_neg, J_and, J_or, J_xor, J_shl, J_shr, J_div, J_i2b, J_i2l, J_l2i, J_lcm, J_max, J_min, J_nab, J_nao, rdA, rdF, rdL, wA_fold, wF_fold, wL_fold, wC_fold]
      refine ⟨fun c12 => ?_, fun c12 => ?_⟩
      · have t13 : r11 = 0 := ((Jeq gr11 (by decide)).mp c12)
        replace w := w.1 t13
        exact ⟨(Or.inl (by trivial)), w⟩
      · have t13 : ¬ r11 = 0 := (fun e => c12 ((Jeq gr11 (by decide)).mpr e))
        replace w := w.2 t13
        exact ⟨(Or.inr (by trivial)), w⟩
    · have t7 : ¬ 5 < (fI h2 256 8) - x3 := (fun e => c6 ((Jlt (by decide) k8).mpr e))
      replace w := w.2 t7
      obtain ⟨k18, w⟩ := w
      obtain ⟨k19, w⟩ := w
      obtain ⟨k20, w⟩ := w
      refine m186 (h := wF h2 256 10 x4) (v := x4) (lo := x1) (hi := x2) C_h2 (by omega) (by first | exact k18 | (simp only [aI_wAL, fI_wAL, aL_wA, aL_wF, aI_wA_ne, aI_wF_ne, fI_wA_ne, fI_wF_ne, fI_wF_nk, aL_wAL_ne, Nat.add_left_cancel_iff, Nat.add_eq_left, Nat.left_eq_add, not_false_eq_true, Nat.reduceEqDiff]; exact k18)) (by first | exact k19 | (simp only [aI_wAL, fI_wAL, aL_wA, aL_wF, aI_wA_ne, aI_wF_ne, fI_wA_ne, fI_wF_ne, fI_wF_nk, aL_wAL_ne, Nat.add_left_cancel_iff, Nat.add_eq_left, Nat.left_eq_add, not_false_eq_true, Nat.reduceEqDiff]; exact k19)) (by first | exact k20 | (simp only [aI_wAL, fI_wAL, aL_wA, aL_wF, aI_wA_ne, aI_wF_ne, fI_wA_ne, fI_wF_ne, fI_wF_nk, aL_wAL_ne, Nat.add_left_cancel_iff, Nat.add_eq_left, Nat.left_eq_add, not_false_eq_true, Nat.reduceEqDiff]; exact k20)) ?_
      refine ⟨_, rfl, ?_⟩
      try simp only [aI_wAL, fI_wAL, aL_wA, aL_wF, aI_wA_ne, aI_wF_ne, fI_wA_ne, fI_wF_ne, fI_wF_nk, aL_wAL_ne, J_sameA, J_sameF, aL_same, Nat.add_left_cancel_iff, Nat.add_eq_left, Nat.left_eq_add, not_false_eq_true, Nat.reduceEqDiff, Nat.reduceAdd, J_add, J_sub, J_mul, J_neg, J_and, J_or, J_xor, J_shl, J_shr, J_div, J_i2b, J_i2l, J_l2i, J_lcm, J_max, J_min, J_nab, J_nao, rdA, rdF, rdL, wA_fold, wF_fold, wL_fold, wC_fold]
      refine ⟨fun c21 => ?_, fun c21 => ?_⟩
      · have t22 : (x1 ≤ x4 ∧ x4 ≤ x2) := (Classical.byContradiction fun n => c21 ((bI0 _).mpr n))
        replace w := w.1 t22
        exact ⟨(Or.inr (by trivial)), w⟩
      · have t22 : ¬ (x1 ≤ x4 ∧ x4 ≤ x2) := ((bI0 _).mp (Classical.byContradiction fun n => c21 n))
        replace w := w.2 t22
        refine ⟨(ls256 C_h2), ?_⟩
        refine Ex.mono w (Nat.le_refl _) ?_
        rintro v23 h24 ⟨r25, gr25, rfl, s28, w⟩
        refine ⟨_, rfl, ?_⟩
        have C_h24 := Lay_SH s28 C_h2
        try simp only [aI_wAL, fI_wAL, aL_wA, aL_wF, aI_wA_ne, aI_wF_ne, fI_wA_ne, fI_wF_ne, fI_wF_nk, aL_wAL_ne, J_sameA, J_sameF, aL_same, Nat.add_left_cancel_iff, Nat.add_eq_left, Nat.left_eq_add, not_false_eq_true, Nat.reduceEqDiff, Nat.reduceAdd, J_add, J_sub, J_mul, J_neg, J_and, J_or, J_xor, J_shl, J_shr, J_div, J_i2b, J_i2l, J_l2i, J_lcm, J_max, J_min, J_nab, J_nao, rdA, rdF, rdL, wA_fold, wF_fold, wL_fold, wC_fold]
        refine ⟨fun c26 => ?_, fun c26 => ?_⟩
        · have t27 : r25 = 0 := ((Jeq gr25 (by decide)).mp c26)
          replace w := w.1 t27
          exact ⟨(Or.inl (by trivial)), w⟩
        · have t27 : ¬ r25 = 0 := (fun e => c26 ((Jeq gr25 (by decide)).mpr e))
          replace w := w.2 t27
          exact ⟨(Or.inr (by trivial)), w⟩
  · have t5 : ¬ r3 = 0 := (fun e => c4 ((Jeq gr3 (by decide)).mpr e))
    replace w := w.2 t5
    refine ⟨(ls256 C_h2), ?_⟩
    obtain ⟨k31, w⟩ := w
    refine ⟨fun c29 => ?_, fun c29 => ?_⟩
    · have t30 : 5 ≤ (fI h2 256 8) - x3 := ((Jle (by decide) k31).mp c29)
      replace w := w.1 t30
      refine ⟨(ls256 C_h2), ?_⟩
      refine ⟨(ls256 C_h2), ?_⟩
      exact w
    · have t30 : ¬ 5 ≤ (fI h2 256 8) - x3 := (fun e => c29 ((Jle (by decide) k31).mpr e))
      replace w := w.2 t30
      refine ⟨(ls256 C_h2), _, (lr256_0 C_h2), ?_⟩
      refine ⟨(ls256 C_h2), ?_⟩
      obtain ⟨k33, w⟩ := w
      refine ⟨Or.inl (congrArg Prod.fst (ls257 C_h2)), ixs (ls257 C_h2) k33 (by decide), ?_⟩
      refine ⟨(ls256 C_h2), ?_⟩
      refine ⟨(ls256 C_h2), ?_⟩
      exact w
theorem m184 {X : Cst} {d : Nat} {lo hi L j : Int} {tp : Int → Int} {h : AH} {Q : Post} (C : Lay h) (hd : 2 ≤ d) (K : RkC h tp L j 0) (hl : 0 ≤ lo ∧ lo < 2147483648) (hh : -2147483648 ≤ hi ∧ hi < 2147483648)
    (k1 : nmF tp L j lo hi noB = 0 → ∀ h', Fr TNm h h' → RkC h' tp L (nx tp L j) 0 → fI h' 256 10 = tkV tp L j → Q (some (.int (J 1))) h')
    (k0 : ¬ nmF tp L j lo hi noB = 0 → ∀ h', Fr TNm h h' → fI h' 256 9 = nmF tp L j lo hi noB → Q (some (.int (J 0))) h') : Ex X PG d 184 0 [some (.ref 256), some (.int (J lo)), some (.int (J hi)), none, none] [] h Q := by
  obtain ⟨d, rfl⟩ : ∃ e, d = e + 1 := ⟨d - 1, by omega⟩
  refine r184_0 C ?_
  refine m175 C (by omega) K (fun h2 F K2 e8 => ?_)
  have sr : -2147483648 ≤ seeV tp L j ∧ seeV tp L j < 2147483648 := by
    unfold seeV
    by_cases c : j < L
    · rw [pI_pos c]; exact rg_toInt _
    · rw [pI_neg c]; omega
  refine ⟨_, sr, rfl, F.1, ?_⟩
  have kj := K2.j
  have b := rn_b (tp := tp) (L := L) (P := dgP) kj.1
  have FM : Fr TNm h h2 := F.mo (fun _ _ => TNx_m)
  have fl : ∀ (h3 : AH) (q : Int), Fr TNm h h3 → fI h3 256 9 = 0 → (q = 0 ∨ q = 1) → nmF tp L j lo hi noB = 1 + 8 * j + q → Q (some (.int (J 0))) (wF h3 256 9 (1 + 8 * j + q)) := by
    intro h3 q F3 e9 hq e
    exact k0 (by omega) _ (F3.wF (by unfold TNm; omega)) (by rw [fI_wF_eq (by omega)]; exact e.symm)
  rw [e8]
  refine m185 (L := L) (tp := tp) (F.C C) (by omega) K2.1 K2.2.1.1 kj.2.2.1 (by omega) ⟨_, bI_rg _, rfl, SH.rf, fun c => ?_, fun c => ?_⟩
  · have y : j < L ∧ dgP (tp j) := Classical.byContradiction fun z => c (bI_neg z)
    have tk : tkK tp L j = 1 := by unfold tkK; rw [pI_neg (by omega), pI_pos y.2]
    have tv : tkV tp L j = numV tp L j := by unfold tkV; rw [pI_neg (by omega), pI_pos y.2]
    have ts : tkS tp L j = rn tp L dgP j := by unfold tkS; rw [pI_neg (by omega), pI_pos y.2]
    rw [e8]
    have lp : ∀ (z n : Nat) (v : Int) (h3 : AH), (rn tp L dgP j - j).toNat - n = z → (n : Int) ≤ rn tp L dgP j - j → (n ≤ 5 → v = nvN tp j n) → (-2147483648 ≤ v ∧ v < 2147483648) → Fr TNx h h3 → fI h3 256 8 = j + n → Ex X PG (d + 1) 184 34 [some (.ref 256), some (.int (J lo)), some (.int (J hi)), some (.int (J j)), some (.int (J v))] [] h3 Q := by
      intro z
      induction z with
      | zero =>
        intro n v h3 ez hn hv hvr F3 e8
        have F3m : Fr TNm h h3 := F3.mo (fun _ _ => TNx_m)
        refine r184_34 (F3.C C) (by omega) ?_
        have ee : j + (n : Int) = rn tp L dgP j := by omega
        rw [e8, ee]
        refine m185 (L := L) (tp := tp) (F3.C C) (by omega) ((F3.a 257 (fun k => by unfold TNx; omega)).trans K.1) ((F3.f 256 1 (by unfold TNx; omega)).trans K.2.1.1) kj.2.2.1 (by omega) ⟨_, bI_rg _, rfl, SH.rf, fun c => ?_, fun c => absurd (bI_neg (rn_e kj.1 kj.2.2.1)) c⟩
        have Fw : Fr TNm h (wF h3 256 10 v) := F3m.wF (by unfold TNm; omega)
        have e9 : fI (wF h3 256 10 v) 256 9 = 0 := by
          rw [fI_wF_nk (by decide)]; exact (F3.f 256 9 (by unfold TNx; omega)).trans K.2.2.2.2
        rw [e8]
        refine ⟨by omega, fun c1 => ?_, fun c1 => ⟨hvr, by omega, by omega, fun c2 => ?_, fun c2 => ?_⟩⟩
        · refine m179 (Fw.C C) (by omega) e9 ⟨0, by omega, rfl, SH.rf.wF, fun _ => ?_, fun z => absurd rfl z⟩
          refine fl _ 1 Fw e9 (by omega) ?_
          have : numV tp L j = -1 := by unfold numV; rw [if_neg (by omega)]
          unfold nmF; rw [pI_pos tk, tv, this, pI_neg (by omega)]
        · have nv : numV tp L j = v := by unfold numV; rw [if_pos (by omega), hv (by omega), show (rn tp L dgP j - j).toNat = n by omega]
          refine k1 (by unfold nmF; rw [pI_pos tk, tv, nv, pI_pos ⟨c2, fun z => z⟩]) _ Fw ?_ (by rw [fI_wF_eq hvr, tv, nv])
          have := (K.nx F3 e8 (by omega)).fr (T := fun c k => c = 256 ∧ k = 10) (h' := wF h3 256 10 v) (Fr.rf.wF (by omega)) (by omega) (by omega) (by omega) (by omega)
          unfold nx
          rw [ts, ← ee]; exact this
        · have nv : numV tp L j = v := by unfold numV; rw [if_pos (by omega), hv (by omega), show (rn tp L dgP j - j).toNat = n by omega]
          refine m179 (Fw.C C) (by omega) e9 ⟨0, by omega, rfl, SH.rf.wF, fun _ => ?_, fun z => absurd rfl z⟩
          refine fl _ 1 Fw e9 (by omega) ?_
          unfold nmF; rw [pI_pos tk, tv, nv, pI_neg (fun z => c2 z.1)]
      | succ z ih =>
        intro n v h3 ez hn hv hvr F3 e8
        refine r184_34 (F3.C C) (by omega) ?_
        have le := b.2.2 (j + n) (by omega) (by omega)
        have ea : aI h3 257 = tp := (F3.a 257 (fun k => by unfold TNx; omega)).trans K.1
        rw [e8]
        refine m185 (L := L) (tp := tp) (F3.C C) (by omega) ea ((F3.f 256 1 (by unfold TNx; omega)).trans K.2.1.1) kj.2.2.1 (by omega) ⟨_, bI_rg _, rfl, SH.rf, fun c => absurd c (by rw [bI_pos le]; decide), fun c => ?_⟩
        rw [e8, ea]
        have Fn : Fr TNx h (wF h3 256 8 (j + n + 1)) := F3.wF (by unfold TNx; omega)
        have en : fI (wF h3 256 8 (j + n + 1)) 256 8 = j + ((n + 1 : Nat) : Int) := by rw [fI_wF_eq (by omega)]; omega
        refine ⟨by omega, fun c1 => ?_, fun c1 => ⟨by omega, ?_⟩⟩
        · exact ih (n + 1) v _ (by omega) (by omega) (fun h => by omega) hvr Fn en
        · have l2 := le.2
          unfold dgP at l2
          have vb := nvN_b (tp := tp) (i := j) n (by omega) (fun k hk => (b.2.2 (j + k) (by omega) (by omega)).2)
          have p5 : (10 : Int) ^ n ≤ 10000 := by
            have : n = 0 ∨ n = 1 ∨ n = 2 ∨ n = 3 ∨ n = 4 := by omega
            rcases this with e | e | e | e | e <;> rw [e] <;> decide
          have ev := hv (by omega)
          refine ih (n + 1) _ _ (by omega) (by omega) (fun _ => ?_) (by omega) Fn en
          show _ = nvN tp j n * 10 + tp (j + n) - 48
          rw [ev]; omega
    exact lp _ 0 0 h2 rfl (by omega) (fun _ => rfl) (by omega) F (by rw [e8]; omega)
  · have n : ¬ (j < L ∧ dgP (tp j)) := fun z => by rw [bI_pos z] at c; omega
    have tk : ¬ tkK tp L j = 1 := by
      unfold tkK
      by_cases c1 : L ≤ j
      · rw [pI_pos c1]; omega
      rw [pI_neg c1, pI_neg (fun z => n ⟨by omega, z⟩)]
      by_cases c2 : leP (tp j)
      · rw [pI_pos c2]; omega
      · rw [pI_neg c2]; omega
    rw [e8]
    refine m179 (F.C C) (by omega) K2.2.2.2.2 ⟨0, by omega, rfl, SH.rf.wF, Or.inl rfl, ?_⟩
    exact fl h2 0 FM K2.2.2.2.2 (by omega) (by unfold nmF; rw [pI_neg tk]; omega)
