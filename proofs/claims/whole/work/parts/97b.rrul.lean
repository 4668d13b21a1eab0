/-! RULES as the reference reads them: values, terms, sums, comparisons. -/
theorem Fr.el {T : Nat → Nat → Prop} {h h' : AH} (x : Fr T h h') (c : Nat) (e : Int) (n : ¬ T c (tn e)) : aI h' c e = aI h c e := by
  unfold aI
  rw [(x.2 c (tn e) n).1]
def cX (c : Cd) (i : Int) : Int × Int := c.getD i.toNat (0, 0)
theorem cX_lt {c : Cd} {x : Int × Int} {i : Int} (h : 0 ≤ i ∧ i < c.length) : cX (c ++ [x]) i = cX c i := by
  unfold cX
  rw [List.getD_eq_getElem?_getD, List.getD_eq_getElem?_getD, List.getElem?_append_left (by omega)]
theorem cX_eq {c : Cd} {x : Int × Int} : cX (c ++ [x]) c.length = x := by
  unfold cX
  rw [List.getD_eq_getElem?_getD, Int.toNat_natCast, List.getElem?_append_right (Nat.le_refl _), Nat.sub_self]
  rfl
theorem len_ap {c : Cd} {x : Int × Int} : ((c ++ [x]).length : Int) = c.length + 1 := by rw [List.length_append]; rfl
/-- the code so far, in the reference's row t -/
def CoR (h : AH) (t : Nat) (c : Cd) : Prop := aI h 259 t = c.length ∧ ∀ i : Int, 0 ≤ i → i < c.length → aI h 258 (400 * t + i) = (cX c i).1 + 16 * (cX c i).2
def TRp (t : Nat) (c k : Nat) : Prop := (c = 259 ∧ k = t) ∨ (c = 258 ∧ 400 * t ≤ k ∧ k < 400 * t + 400)
theorem CoR.fr {T : Nat → Nat → Prop} {h h' : AH} {t : Nat} {c : Cd} (G : CoR h t c) (ht : t < 6) (hc : c.length ≤ 400) (F : Fr T h h') (n : ∀ a k, T a k → ¬ TRp t a k) : CoR h' t c := by
  refine ⟨?_, fun i i0 i1 => ?_⟩
  · rw [F.el 259 t (fun z => n _ _ z (Or.inl ⟨rfl, by rw [tn_eq (by omega)]; omega⟩))]; exact G.1
  · rw [F.el 258 (400 * t + i) (fun z => n _ _ z (Or.inr ⟨rfl, by rw [tn_eq (by omega)]; omega⟩))]; exact G.2 i i0 i1
-- OutwardDoorsModel.puts(II)V at 0
set_option maxRecDepth 20000 in
set_option maxHeartbeats 4000000 in
theorem r196_0 {X : Cst} {d : Nat} {x1 : Int} {x2 : Int} {h : AH} {Q : Post} (C_h : Lay h)
  (w : (0 ≤ fI h 256 11 ∧ fI h 256 11 < 7) ∧ (0 ≤ (400 * (fI h 256 11)) + (aI h 259 (fI h 256 11)) ∧ (400 * (fI h 256 11)) + (aI h 259 (fI h 256 11)) < 2400) ∧ Q none (wA (wA h 258 ((400 * (fI h 256 11)) + (aI h 259 (fI h 256 11))) (x1 + (16 * x2))) 259 (fI h 256 11) ((aI h 259 (fI h 256 11)) + 1))) :
    Ex X PG (d + 1) 196 0 [some (.ref 256), some (.int (J x1)), some (.int (J x2))] [] h Q := by
  refine wpx_ok (cut := []) 28 d 196 0 _ _ _ _ ?_
  show hs h 256 = (0, 11) ∧ ∃ q1, hR h 256 3 = some q1 ∧ hs h 256 = (0, 11) ∧ hs h 256 = (0, 11) ∧ ∃ q2, hR h 256 4 = some q2 ∧ hs h 256 = (0, 11) ∧ (hs h q2).1 = 1 ∧ ix (hF h 256 11) (hs h q2).2 ∧ (hs h q1).1 = 1 ∧ ix (((J 400) * (hF h 256 11)) + (hI h q2 (Int32.toNatClampNeg (hF h 256 11)))) (hs h q1).2 ∧ hs (wI h q1 (Int32.toNatClampNeg (((J 400) * (hF h 256 11)) + (hI h q2 (Int32.toNatClampNeg (hF h 256 11))))) ((J x1) + ((J 16) * (J x2)))) 256 = (0, 11) ∧ ∃ q5, hR (wI h q1 (Int32.toNatClampNeg (((J 400) * (hF h 256 11)) + (hI h q2 (Int32.toNatClampNeg (hF h 256 11))))) ((J x1) + ((J 16) * (J x2)))) 256 4 = some q5 ∧ hs (wI h q1 (Int32.toNatClampNeg (((J 400) * (hF h 256 11)) + (hI h q2 (Int32.toNatClampNeg (hF h 256 11))))) ((J x1) + ((J 16) * (J x2)))) 256 = (0, 11) ∧ (hs (wI h q1 (Int32.toNatClampNeg (((J 400) * (hF h 256 11)) + (hI h q2 (Int32.toNatClampNeg (hF h 256 11))))) ((J x1) + ((J 16) * (J x2)))) q5).1 = 1 ∧ ix (hF (wI h q1 (Int32.toNatClampNeg (((J 400) * (hF h 256 11)) + (hI h q2 (Int32.toNatClampNeg (hF h 256 11))))) ((J x1) + ((J 16) * (J x2)))) 256 11) (hs (wI h q1 (Int32.toNatClampNeg (((J 400) * (hF h 256 11)) + (hI h q2 (Int32.toNatClampNeg (hF h 256 11))))) ((J x1) + ((J 16) * (J x2)))) q5).2 ∧ (hs (wI h q1 (Int32.toNatClampNeg (((J 400) * (hF h 256 11)) + (hI h q2 (Int32.toNatClampNeg (hF h 256 11))))) ((J x1) + ((J 16) * (J x2)))) q5).1 = 1 ∧ ix (hF (wI h q1 (Int32.toNatClampNeg (((J 400) * (hF h 256 11)) + (hI h q2 (Int32.toNatClampNeg (hF h 256 11))))) ((J x1) + ((J 16) * (J x2)))) 256 11) (hs (wI h q1 (Int32.toNatClampNeg (((J 400) * (hF h 256 11)) + (hI h q2 (Int32.toNatClampNeg (hF h 256 11))))) ((J x1) + ((J 16) * (J x2)))) q5).2 ∧ Q none (wI (wI h q1 (Int32.toNatClampNeg (((J 400) * (hF h 256 11)) + (hI h q2 (Int32.toNatClampNeg (hF h 256 11))))) ((J x1) + ((J 16) * (J x2)))) q5 (Int32.toNatClampNeg (hF (wI h q1 (Int32.toNatClampNeg (((J 400) * (hF h 256 11)) + (hI h q2 (Int32.toNatClampNeg (hF h 256 11))))) ((J x1) + ((J 16) * (J x2)))) 256 11)) ((hI (wI h q1 (Int32.toNatClampNeg (((J 400) * (hF h 256 11)) + (hI h q2 (Int32.toNatClampNeg (hF h 256 11))))) ((J x1) + ((J 16) * (J x2)))) q5 (Int32.toNatClampNeg (hF (wI h q1 (Int32.toNatClampNeg (((J 400) * (hF h 256 11)) + (hI h q2 (Int32.toNatClampNeg (hF h 256 11))))) ((J x1) + ((J 16) * (J x2)))) 256 11))) + (J 1)))
  try simp only [aI_wAL, fI_wAL, aL_wA, aL_wF, aI_wA_ne, aI_wF_ne, fI_wA_ne, fI_wF_ne, fI_wF_nk, aL_wAL_ne, J_sameA, J_sameF, aL_same, Nat.add_left_cancel_iff, Nat.add_eq_left, Nat.left_eq_add, not_false_eq_true, Nat.reduceEqDiff, Nat.reduceAdd, J_add, J_sub, J_mul, J_neg, J_and, J_or, J_xor, J_shl, J_shr, J_div, J_i2b, J_i2l, J_l2i, J_lcm, J_max, J_min, J_nab, J_nao, rdA, rdF, rdL, wA_fold, wF_fold, wL_fold, wC_fold]
  refine ⟨(ls256 C_h), _, (lr256_3 C_h), ?_⟩
  refine ⟨(ls256 C_h), ?_⟩
  refine ⟨(ls256 C_h), _, (lr256_4 C_h), ?_⟩
  refine ⟨(ls256 C_h), ?_⟩
  obtain ⟨k3, w⟩ := w
  refine ⟨congrArg Prod.fst (ls259 C_h), ixs (ls259 C_h) k3 (by decide), ?_⟩
  obtain ⟨k4, w⟩ := w
  refine ⟨congrArg Prod.fst (ls258 C_h), ixs (ls258 C_h) k4 (by decide), ?_⟩
  refine ⟨(ls256 C_h), _, (lr256_4 C_h), ?_⟩
  refine ⟨(ls256 C_h), ?_⟩
  refine ⟨congrArg Prod.fst (ls259 C_h), ixs (ls259 C_h) k3 (by decide), ?_⟩
  try simp only [aI_wAL, fI_wAL, aL_wA, aL_wF, aI_wA_ne, aI_wF_ne, fI_wA_ne, fI_wF_ne, fI_wF_nk, aL_wAL_ne, J_sameA, J_sameF, aL_same, Nat.add_left_cancel_iff, Nat.add_eq_left, Nat.left_eq_add, not_false_eq_true, Nat.reduceEqDiff, Nat.reduceAdd]
  refine ⟨congrArg Prod.fst (ls259 C_h), ixs (ls259 C_h) k3 (by decide), ?_⟩
  exact w
theorem m196 {X : Cst} {d t : Nat} {o a : Int} {c : Cd} {h : AH} {Q : Post} (C : Lay h) (hd : 1 ≤ d) (ht : t < 6) (et : fI h 256 11 = t) (G : CoR h t c) (hc : c.length < 400) (ho : -2147483648 ≤ o + 16 * a ∧ o + 16 * a < 2147483648) (k : ∀ h', Fr (TRp t) h h' → CoR h' t (c ++ [(o, a)]) → Q none h') : Ex X PG d 196 0 [some (.ref 256), some (.int (J o)), some (.int (J a))] [] h Q := by
  obtain ⟨d, rfl⟩ : ∃ e, d = e + 1 := ⟨d - 1, by omega⟩
  refine r196_0 C ?_
  rw [et, G.1]
  refine ⟨by omega, by omega, k _ ((Fr.rf.wA (Or.inr ⟨rfl, by rw [tn_eq (by omega)]; omega⟩)).wA (Or.inl ⟨rfl, by rw [tn_eq (by omega)]; omega⟩)) ⟨?_, fun i i0 i1 => ?_⟩⟩
  · rw [aI_wA (by omega), uu_eq, len_ap]
  · rw [len_ap] at i1
    rw [aI_wA_ne (by decide), aI_wA ho]
    by_cases q : i = c.length
    · rw [q, uu_eq, cX_eq]
    · rw [uu_ne (by omega) (by omega) (by omega), cX_lt (by omega)]
      exact G.2 i i0 (by omega)
/-- the reference's reader of rules at the token j: p parts, code c, row t -/
def RP (h : AH) (tp : Int → Int) (L j p : Int) (c : Cd) (t : Nat) : Prop := RkC h tp L j 0 ∧ fI h 256 12 = p ∧ fI h 256 11 = t ∧ CoR h t c
def TRz (t : Nat) (c k : Nat) : Prop := (c = 256 ∧ (k = 8 ∨ k = 9 ∨ k = 10 ∨ k = 12)) ∨ TRp t c k
theorem TNx_s {t c k : Nat} (z : TNx c k) : TRz t c k := by unfold TNx at z; unfold TRz TRp; omega
theorem TNm_s {t c k : Nat} (z : TNm c k) : TRz t c k := by unfold TNm at z; unfold TRz TRp; omega
theorem RP.nx {h h' : AH} {tp : Int → Int} {L j j' p : Int} {c : Cd} {t : Nat} (R : RP h tp L j p c t) (ht : t < 6) (hc : c.length ≤ 400) (F : Fr TNx h h') (K : RkC h' tp L j' 0) : RP h' tp L j' p c t :=
  ⟨K, by rw [F.f 256 12 (by unfold TNx; omega)]; exact R.2.1, by rw [F.f 256 11 (by unfold TNx; omega)]; exact R.2.2.1, R.2.2.2.fr ht hc F (fun a k z => by unfold TNx at z; unfold TRp; omega)⟩
def RQs (h : AH) (tp : Int → Int) (L : Int) (t : Nat) (r : RR) (Q : Post) : Prop := (r.1 = 0 → ∀ h', Fr (TRz t) h h' → RP h' tp L r.2.1 r.2.2.1 r.2.2.2 t → Q (some (.int (J 1))) h') ∧ (¬ r.1 = 0 → ∀ h', Fr (TRz t) h h' → fI h' 256 9 = r.1 → Q (some (.int (J 0))) h')
theorem RQs.mo {h h2 : AH} {tp : Int → Int} {L : Int} {t : Nat} {r : RR} {Q : Post} (k : RQs h tp L t r Q) (F : Fr (TRz t) h h2) : RQs h2 tp L t r Q := ⟨fun e h' F' => k.1 e h' (F.tr F'), fun e h' F' => k.2 e h' (F.tr F')⟩
theorem RQs.bad {h h' : AH} {tp : Int → Int} {L f : Int} {t : Nat} {Q : Post} (k : RQs h tp L t (flR f) Q) (nf : ¬ f = 0) (F : Fr (TRz t) h h') (e : fI h' 256 9 = f) : Q (some (.int (J 0))) h' := k.2 nf h' F e
-- OutwardDoorsModel.makes(I)Z at 0
set_option maxRecDepth 20000 in
set_option maxHeartbeats 4000000 in
theorem r195_0 {X : Cst} {d : Nat} {x1 : Int} {h : AH} {Q : Post} (C_h : Lay h)
  (w : ((¬ fI h 256 12 = 60 → Q (some (.int (J 1))) (wF h 256 12 ((fI h 256 12) + 1))) ∧ (fI h 256 12 = 60 → Ex X PG d 179 0 [some (.ref 256), some (.int (J 3)), some (.int (J x1))] [] h (fun v3 h4 => ∃ r5 : Int, (-2147483648 ≤ r5 ∧ r5 < 2147483648) ∧ v3 = some (.int (J r5)) ∧ SH h h4 ∧ (r5 = 0 ∨ r5 = 1) ∧ Q (some (.int (J r5))) h4)))) :
    Ex X PG (d + 1) 195 0 [some (.ref 256), some (.int (J x1))] [] h Q := by
  refine wpx_ok (cut := []) 12 d 195 0 _ _ _ _ ?_
  show hs h 256 = (0, 11) ∧ ((¬ (hF h 256 12) = (J 60) → hs h 256 = (0, 11) ∧ hs h 256 = (0, 11) ∧ (J 1 = J 0 ∨ J 1 = J 1) ∧ Q (some (.int (J 1))) (wG h 256 12 ((hF h 256 12) + (J 1)))) ∧ (¬ (¬ (hF h 256 12) = (J 60)) → hs h 256 = (0, 11) ∧ Ex X PG d 179 0 [some (.ref 256), some (.int (J 3)), some (.int (J x1))] [] h (fun v3 h4 => ∃ r5, v3 = some (.int r5) ∧ (r5 = J 0 ∨ r5 = J 1) ∧ Q (some (.int r5)) h4)))
  try simp only [aI_wAL, fI_wAL, aL_wA, aL_wF, aI_wA_ne, aI_wF_ne, fI_wA_ne, fI_wF_ne, fI_wF_nk, aL_wAL_ne, J_sameA, J_sameF, aL_same, Nat.add_left_cancel_iff, Nat.add_eq_left, Nat.left_eq_add, not_false_eq_true, Nat.reduceEqDiff, Nat.reduceAdd, J_add, J_sub, J_mul, J_neg, J_and, J_or, J_xor, J_shl, J_shr, J_div, J_i2b, J_i2l, J_l2i, J_lcm, J_max, J_min, J_nab, J_nao, rdA, rdF, rdL, wA_fold, wF_fold, wL_fold, wC_fold]
  refine ⟨(ls256 C_h), ?_⟩
  refine ⟨fun c1 => ?_, fun c1 => ?_⟩
  · have t2 : ¬ fI h 256 12 = 60 := (fun e => c1 ((Jeq (rg_toInt _) (by decide)).mpr e))
    replace w := w.1 t2
    refine ⟨(ls256 C_h), ?_⟩
    refine ⟨(ls256 C_h), ?_⟩
    exact ⟨(Or.inr (by trivial)), w⟩
  · have t2 : fI h 256 12 = 60 := ((Jeq (rg_toInt _) (by decide)).mp (Classical.byContradiction c1))
    replace w := w.2 t2
    refine ⟨(ls256 C_h), ?_⟩
    refine Ex.mono w (Nat.le_refl _) ?_
    rintro v3 h4 ⟨r5, gr5, rfl, s7, w⟩
    refine ⟨_, rfl, ?_⟩
    have C_h4 := Lay_SH s7 C_h
    try simp only [aI_wAL, fI_wAL, aL_wA, aL_wF, aI_wA_ne, aI_wF_ne, fI_wA_ne, fI_wF_ne, fI_wF_nk, aL_wAL_ne, J_sameA, J_sameF, aL_same, Nat.add_left_cancel_iff, Nat.add_eq_left, Nat.left_eq_add, not_false_eq_true, Nat.reduceEqDiff, Nat.reduceAdd, J_add, J_sub, J_mul, J_neg, J_and, J_or, J_xor, J_shl, J_shr, J_div, J_i2b, J_i2l, J_l2i, J_lcm, J_max, J_min, J_nab, J_nao, rdA, rdF, rdL, wA_fold, wF_fold, wL_fold, wC_fold]
    obtain ⟨k6, w⟩ := w
    exact ⟨(k6.imp (congrArg J) (congrArg J)), w⟩
theorem m195 {X : Cst} {d : Nat} {p a : Int} {h : AH} {Q : Post} (C : Lay h) (hd : 2 ≤ d) (ep : fI h 256 12 = p) (e9 : fI h 256 9 = 0) (k1 : ¬ p = 60 → Q (some (.int (J 1))) (wF h 256 12 (p + 1))) (k0 : p = 60 → Q (some (.int (J 0))) (wF h 256 9 (1 + 8 * a + 3))) : Ex X PG d 195 0 [some (.ref 256), some (.int (J a))] [] h Q := by
  obtain ⟨d, rfl⟩ : ∃ e, d = e + 1 := ⟨d - 1, by omega⟩
  refine r195_0 C ?_
  rw [ep]
  exact ⟨k1, fun c => m179 C (by omega) e9 ⟨0, by omega, rfl, SH.rf.wF, Or.inl rfl, k0 c⟩⟩
-- OutwardDoorsModel.wordHere()I at 0
set_option maxRecDepth 20000 in
set_option maxHeartbeats 4000000 in
theorem r197_0 {X : Cst} {d : Nat}  {h : AH} {Q : Post} (C_h : Lay h)
  (w : Ex X PG d 177 0 [some (.ref 256), some (.long (123581014175598 : Int64)), none, none, none, none] [] h (fun v1 h2 => ∃ r3 : Int, (-2147483648 ≤ r3 ∧ r3 < 2147483648) ∧ v1 = some (.int (J r3)) ∧ SH h h2 ∧ ((r3 = 0 → Ex X PG d 177 0 [some (.ref 256), some (.long (1919905645 : Int64)), none, none, none, none] [] h2 (fun v6 h7 => ∃ r8 : Int, (-2147483648 ≤ r8 ∧ r8 < 2147483648) ∧ v6 = some (.int (J r8)) ∧ SH h2 h7 ∧ ((r8 = 0 → Ex X PG d 177 0 [some (.ref 256), some (.long (6709618 : Int64)), none, none, none, none] [] h7 (fun v11 h12 => ∃ r13 : Int, (-2147483648 ≤ r13 ∧ r13 < 2147483648) ∧ v11 = some (.int (J r13)) ∧ SH h7 h12 ∧ ((r13 = 0 → Ex X PG d 177 0 [some (.ref 256), some (.long (1735352684 : Int64)), none, none, none, none] [] h12 (fun v16 h17 => ∃ r18 : Int, (-2147483648 ≤ r18 ∧ r18 < 2147483648) ∧ v16 = some (.int (J r18)) ∧ SH h12 h17 ∧ ((r18 = 0 → Ex X PG d 177 0 [some (.ref 256), some (.long (1818584692 : Int64)), none, none, none, none] [] h17 (fun v21 h22 => ∃ r23 : Int, (-2147483648 ≤ r23 ∧ r23 < 2147483648) ∧ v21 = some (.int (J r23)) ∧ SH h17 h22 ∧ ((r23 = 0 → Ex X PG d 177 0 [some (.ref 256), some (.long (7364985 : Int64)), none, none, none, none] [] h22 (fun v26 h27 => ∃ r28 : Int, (-2147483648 ≤ r28 ∧ r28 < 2147483648) ∧ v26 = some (.int (J r28)) ∧ SH h22 h27 ∧ ((r28 = 0 → Ex X PG d 177 0 [some (.ref 256), some (.long (120325344161396 : Int64)), none, none, none, none] [] h27 (fun v31 h32 => ∃ r33 : Int, (-2147483648 ≤ r33 ∧ r33 < 2147483648) ∧ v31 = some (.int (J r33)) ∧ SH h27 h32 ∧ ((r33 = 0 → Ex X PG d 177 0 [some (.ref 256), some (.long (474214787188 : Int64)), none, none, none, none] [] h32 (fun v36 h37 => ∃ r38 : Int, (-2147483648 ≤ r38 ∧ r38 < 2147483648) ∧ v36 = some (.int (J r38)) ∧ SH h32 h37 ∧ ((r38 = 0 → Ex X PG d 177 0 [some (.ref 256), some (.long (1751478885 : Int64)), none, none, none, none] [] h37 (fun v41 h42 => ∃ r43 : Int, (-2147483648 ≤ r43 ∧ r43 < 2147483648) ∧ v41 = some (.int (J r43)) ∧ SH h37 h42 ∧ ((r43 = 0 → Ex X PG d 177 0 [some (.ref 256), some (.long (26990 : Int64)), none, none, none, none] [] h42 (fun v46 h47 => ∃ r48 : Int, (-2147483648 ≤ r48 ∧ r48 < 2147483648) ∧ v46 = some (.int (J r48)) ∧ SH h42 h47 ∧ ((r48 = 0 → Ex X PG d 177 0 [some (.ref 256), some (.long (7304564 : Int64)), none, none, none, none] [] h47 (fun v51 h52 => ∃ r53 : Int, (-2147483648 ≤ r53 ∧ r53 < 2147483648) ∧ v51 = some (.int (J r53)) ∧ SH h47 h52 ∧ ((r53 = 0 → Ex X PG d 177 0 [some (.ref 256), some (.long (418548245860 : Int64)), none, none, none, none] [] h52 (fun v56 h57 => ∃ r58 : Int, (-2147483648 ≤ r58 ∧ r58 < 2147483648) ∧ v56 = some (.int (J r58)) ∧ SH h52 h57 ∧ ((r58 = 0 → Q (some (.int (J (-1)))) h57) ∧ (¬ r58 = 0 → Q (some (.int (J 11))) h57)))) ∧ (¬ r53 = 0 → Q (some (.int (J 10))) h52)))) ∧ (¬ r48 = 0 → Q (some (.int (J 9))) h47)))) ∧ (¬ r43 = 0 → Q (some (.int (J 8))) h42)))) ∧ (¬ r38 = 0 → Q (some (.int (J 7))) h37)))) ∧ (¬ r33 = 0 → Q (some (.int (J 6))) h32)))) ∧ (¬ r28 = 0 → Q (some (.int (J 5))) h27)))) ∧ (¬ r23 = 0 → Q (some (.int (J 4))) h22)))) ∧ (¬ r18 = 0 → Q (some (.int (J 3))) h17)))) ∧ (¬ r13 = 0 → Q (some (.int (J 2))) h12)))) ∧ (¬ r8 = 0 → Q (some (.int (J 1))) h7)))) ∧ (¬ r3 = 0 → Q (some (.int (J 0))) h2)))) :
    Ex X PG (d + 1) 197 0 [some (.ref 256)] [] h Q := by
  refine wpx_ok (cut := []) 51 d 197 0 _ _ _ _ ?_
  show hs h 256 = (0, 11) ∧ Ex X PG d 177 0 [some (.ref 256), some (.long (123581014175598 : Int64)), none, none, none, none] [] h (fun v1 h2 => ∃ r3, v1 = some (.int r3) ∧ ((r3 = (J 0) → hs h2 256 = (0, 11) ∧ Ex X PG d 177 0 [some (.ref 256), some (.long (1919905645 : Int64)), none, none, none, none] [] h2 (fun v6 h7 => ∃ r8, v6 = some (.int r8) ∧ ((r8 = (J 0) → hs h7 256 = (0, 11) ∧ Ex X PG d 177 0 [some (.ref 256), some (.long (6709618 : Int64)), none, none, none, none] [] h7 (fun v11 h12 => ∃ r13, v11 = some (.int r13) ∧ ((r13 = (J 0) → hs h12 256 = (0, 11) ∧ Ex X PG d 177 0 [some (.ref 256), some (.long (1735352684 : Int64)), none, none, none, none] [] h12 (fun v16 h17 => ∃ r18, v16 = some (.int r18) ∧ ((r18 = (J 0) → hs h17 256 = (0, 11) ∧ Ex X PG d 177 0 [some (.ref 256), some (.long (1818584692 : Int64)), none, none, none, none] [] h17 (fun v21 h22 => ∃ r23, v21 = some (.int r23) ∧ ((r23 = (J 0) → hs h22 256 = (0, 11) ∧ Ex X PG d 177 0 [some (.ref 256), some (.long (7364985 : Int64)), none, none, none, none] [] h22 (fun v26 h27 => ∃ r28, v26 = some (.int r28) ∧ ((r28 = (J 0) → hs h27 256 = (0, 11) ∧ Ex X PG d 177 0 [some (.ref 256), some (.long (120325344161396 : Int64)), none, none, none, none] [] h27 (fun v31 h32 => ∃ r33, v31 = some (.int r33) ∧ ((r33 = (J 0) → hs h32 256 = (0, 11) ∧ Ex X PG d 177 0 [some (.ref 256), some (.long (474214787188 : Int64)), none, none, none, none] [] h32 (fun v36 h37 => ∃ r38, v36 = some (.int r38) ∧ ((r38 = (J 0) → hs h37 256 = (0, 11) ∧ Ex X PG d 177 0 [some (.ref 256), some (.long (1751478885 : Int64)), none, none, none, none] [] h37 (fun v41 h42 => ∃ r43, v41 = some (.int r43) ∧ ((r43 = (J 0) → hs h42 256 = (0, 11) ∧ Ex X PG d 177 0 [some (.ref 256), some (.long (26990 : Int64)), none, none, none, none] [] h42 (fun v46 h47 => ∃ r48, v46 = some (.int r48) ∧ ((r48 = (J 0) → hs h47 256 = (0, 11) ∧ Ex X PG d 177 0 [some (.ref 256), some (.long (7304564 : Int64)), none, none, none, none] [] h47 (fun v51 h52 => ∃ r53, v51 = some (.int r53) ∧ ((r53 = (J 0) → hs h52 256 = (0, 11) ∧ Ex X PG d 177 0 [some (.ref 256), some (.long (418548245860 : Int64)), none, none, none, none] [] h52 (fun v56 h57 => ∃ r58, v56 = some (.int r58) ∧ ((r58 = (J 0) → Q (some (.int (J (-1)))) h57) ∧ (¬ (r58 = (J 0)) → Q (some (.int (J 11))) h57)))) ∧ (¬ (r53 = (J 0)) → Q (some (.int (J 10))) h52)))) ∧ (¬ (r48 = (J 0)) → Q (some (.int (J 9))) h47)))) ∧ (¬ (r43 = (J 0)) → Q (some (.int (J 8))) h42)))) ∧ (¬ (r38 = (J 0)) → Q (some (.int (J 7))) h37)))) ∧ (¬ (r33 = (J 0)) → Q (some (.int (J 6))) h32)))) ∧ (¬ (r28 = (J 0)) → Q (some (.int (J 5))) h27)))) ∧ (¬ (r23 = (J 0)) → Q (some (.int (J 4))) h22)))) ∧ (¬ (r18 = (J 0)) → Q (some (.int (J 3))) h17)))) ∧ (¬ (r13 = (J 0)) → Q (some (.int (J 2))) h12)))) ∧ (¬ (r8 = (J 0)) → Q (some (.int (J 1))) h7)))) ∧ (¬ (r3 = (J 0)) → Q (some (.int (J 0))) h2)))
  try simp only [aI_wAL, fI_wAL, aL_wA, aL_wF, aI_wA_ne, aI_wF_ne, fI_wA_ne, fI_wF_ne, fI_wF_nk, aL_wAL_ne, J_sameA, J_sameF, aL_same, Nat.add_left_cancel_iff, Nat.add_eq_left, Nat.left_eq_add, not_false_eq_true, Nat.reduceEqDiff, Nat.reduceAdd, J_add, J_sub, J_mul, J_neg, J_and, J_or, J_xor, J_shl, J_shr, J_div, J_i2b, J_i2l, J_l2i, J_lcm, J_max, J_min, J_nab, J_nao, rdA, rdF, rdL, wA_fold, wF_fold, wL_fold, wC_fold]
  refine ⟨(ls256 C_h), ?_⟩
  refine Ex.mono w (Nat.le_refl _) ?_
  rintro v1 h2 ⟨r3, gr3, rfl, s72, w⟩
  refine ⟨_, rfl, ?_⟩
  have C_h2 := Lay_SH s72 C_h
  try simp only [aI_wAL, fI_wAL, aL_wA, aL_wF, aI_wA_ne, aI_wF_ne, fI_wA_ne, fI_wF_ne, fI_wF_nk, aL_wAL_ne, J_sameA, J_sameF, aL_same, Nat.add_left_cancel_iff, Nat.add_eq_left, Nat.left_eq_add, not_false_eq_true, Nat.reduceEqDiff, Nat.reduceAdd, J_add, J_sub, J_mul, J_neg, J_and, J_or, J_xor, J_shl, J_shr, J_div, J_i2b, J_i2l, J_l2i, J_lcm, J_max, J_min, J_nab, J_nao, rdA, rdF, rdL, wA_fold, wF_fold, wL_fold, wC_fold]
  refine ⟨fun c4 => ?_, fun c4 => ?_⟩
  · have t5 : r3 = 0 := ((Jeq gr3 (by decide)).mp c4)
    replace w := w.1 t5
    refine ⟨(ls256 C_h2), ?_⟩
    refine Ex.mono w (Nat.le_refl _) ?_
    rintro v6 h7 ⟨r8, gr8, rfl, s71, w⟩
    refine ⟨_, rfl, ?_⟩
    have C_h7 := Lay_SH s71 C_h2
    try simp only [aI_wAL, fI_wAL, aL_wA, aL_wF, aI_wA_ne, aI_wF_ne, fI_wA_ne, fI_wF_ne, fI_wF_nk, aL_wAL_ne, J_sameA, J_sameF, aL_same, Nat.add_left_cancel_iff, Nat.add_eq_left, Nat.left_eq_add, not_false_eq_true, Nat.reduceEqDiff, Nat.reduceAdd, J_add, J_sub, J_mul, J_neg, J_and, J_or, J_xor, J_shl, J_shr, J_div, J_i2b, J_i2l, J_l2i, J_lcm, J_max, J_min, J_nab, J_nao, rdA, rdF, rdL, wA_fold, wF_fold, wL_fold, wC_fold]
    refine ⟨fun c9 => ?_, fun c9 => ?_⟩
    · have t10 : r8 = 0 := ((Jeq gr8 (by decide)).mp c9)
      replace w := w.1 t10
      refine ⟨(ls256 C_h7), ?_⟩
      refine Ex.mono w (Nat.le_refl _) ?_
      rintro v11 h12 ⟨r13, gr13, rfl, s70, w⟩
      refine ⟨_, rfl, ?_⟩
      have C_h12 := Lay_SH s70 C_h7
      try simp only [aI_wAL, fI_wAL, aL_wA, aL_wF, aI_wA_ne, aI_wF_ne, fI_wA_ne, fI_wF_ne, fI_wF_nk, aL_wAL_ne, J_sameA, J_sameF, aL_same, Nat.add_left_cancel_iff, Nat.add_eq_left, Nat.left_eq_add, not_false_eq_true, Nat.reduceEqDiff, Nat.reduceAdd, J_add, J_sub, J_mul, J_neg, J_and, J_or, J_xor, J_shl, J_shr, J_div, J_i2b, J_i2l, J_l2i, J_lcm, J_max, J_min, J_nab, J_nao, rdA, rdF, rdL, wA_fold, wF_fold, wL_fold, wC_fold]
      refine ⟨fun c14 => ?_, fun c14 => ?_⟩
      · have t15 : r13 = 0 := ((Jeq gr13 (by decide)).mp c14)
        replace w := w.1 t15
        refine ⟨(ls256 C_h12), ?_⟩
        refine Ex.mono w (Nat.le_refl _) ?_
        rintro v16 h17 ⟨r18, gr18, rfl, s69, w⟩
        refine ⟨_, rfl, ?_⟩
        have C_h17 := Lay_SH s69 C_h12
        try simp only [aI_wAL, fI_wAL, aL_wA, aL_wF, aI_wA_ne, aI_wF_ne, fI_wA_ne, fI_wF_ne, fI_wF_nk, aL_wAL_ne, J_sameA, J_sameF, aL_same, Nat.add_left_cancel_iff, Nat.add_eq_left, Nat.left_eq_add, not_false_eq_true, Nat.reduceEqDiff, Nat.reduceAdd, J_add, J_sub, J_mul, J_neg, J_and, J_or, J_xor, J_shl, J_shr, J_div, J_i2b, J_i2l, J_l2i, J_lcm, J_max, J_min, J_nab, J_nao, rdA, rdF, rdL, wA_fold, wF_fold, wL_fold, wC_fold]
        refine ⟨fun c19 => ?_, fun c19 => ?_⟩
        · have t20 : r18 = 0 := ((Jeq gr18 (by decide)).mp c19)
          replace w := w.1 t20
          refine ⟨(ls256 C_h17), ?_⟩
          refine Ex.mono w (Nat.le_refl _) ?_
          rintro v21 h22 ⟨r23, gr23, rfl, s68, w⟩
          refine ⟨_, rfl, ?_⟩
          have C_h22 := Lay_SH s68 C_h17
          try simp only [aI_wAL, fI_wAL, aL_wA, aL_wF, aI_wA_ne, aI_wF_ne, fI_wA_ne, fI_wF_ne, fI_wF_nk, aL_wAL_ne, J_sameA, J_sameF, aL_same, Nat.add_left_cancel_iff, Nat.add_eq_left, Nat.left_eq_add, not_false_eq_true, Nat.reduceEqDiff, Nat.reduceAdd, J_add, J_sub, J_mul, J_neg, J_and, J_or, J_xor, J_shl, J_shr, J_div, J_i2b, J_i2l, J_l2i, J_lcm, J_max, J_min, J_nab, J_nao, rdA, rdF, rdL, wA_fold, wF_fold, wL_fold, wC_fold]
          refine ⟨fun c24 => ?_, fun c24 => ?_⟩
          · have t25 : r23 = 0 := ((Jeq gr23 (by decide)).mp c24)
            replace w := w.1 t25
            refine ⟨(ls256 C_h22), ?_⟩
            refine Ex.mono w (Nat.le_refl _) ?_
            rintro v26 h27 ⟨r28, gr28, rfl, s67, w⟩
            refine ⟨_, rfl, ?_⟩
            have C_h27 := Lay_SH s67 C_h22
            try simp only [aI_wAL, fI_wAL, aL_wA, aL_wF, aI_wA_ne, aI_wF_ne, fI_wA_ne, fI_wF_ne, fI_wF_nk, aL_wAL_ne, J_sameA, J_sameF, aL_same, Nat.add_left_cancel_iff, Nat.add_eq_left, Nat.left_eq_add, not_false_eq_true, Nat.reduceEqDiff, Nat.reduceAdd, J_add, J_sub, J_mul, J_neg, J_and, J_or, J_xor, J_shl, J_shr, J_div, J_i2b, J_i2l, J_l2i, J_lcm, J_max, J_min, J_nab, J_nao, rdA, rdF, rdL, wA_fold, wF_fold, wL_fold, wC_fold]
            refine ⟨fun c29 => ?_, fun c29 => ?_⟩
            · have t30 : r28 = 0 := ((Jeq gr28 (by decide)).mp c29)
              replace w := w.1 t30
              refine ⟨(ls256 C_h27), ?_⟩
              refine Ex.mono w (Nat.le_refl _) ?_
              rintro v31 h32 ⟨r33, gr33, rfl, s66, w⟩
              refine ⟨_, rfl, ?_⟩
              have C_h32 := Lay_SH s66 C_h27
              try simp only [aI_wAL, fI_wAL, aL_wA, aL_wF, aI_wA_ne, aI_wF_ne, fI_wA_ne, fI_wF_ne, fI_wF_nk, aL_wAL_ne, J_sameA, J_sameF, aL_same, Nat.add_left_cancel_iff, Nat.add_eq_left, Nat.left_eq_add, not_false_eq_true, Nat.reduceEqDiff, Nat.reduceAdd, J_add, J_sub, J_mul, J_neg, J_and, J_or, J_xor, J_shl, J_shr, J_div, J_i2b, J_i2l, J_l2i, J_lcm, J_max, J_min, J_nab, J_nao, rdA, rdF, rdL, wA_fold, wF_fold, wL_fold, wC_fold]
              refine ⟨fun c34 => ?_, fun c34 => ?_⟩
              · have t35 : r33 = 0 := ((Jeq gr33 (by decide)).mp c34)
                replace w := w.1 t35
                refine ⟨(ls256 C_h32), ?_⟩
                refine Ex.mono w (Nat.le_refl _) ?_
                rintro v36 h37 ⟨r38, gr38, rfl, s65, w⟩
                refine ⟨_, rfl, ?_⟩
                have C_h37 := Lay_SH s65 C_h32
                try simp only [aI_wAL, fI_wAL, aL_wA, aL_wF, aI_wA_ne, aI_wF_ne, fI_wA_ne, fI_wF_ne, fI_wF_nk, aL_wAL_ne, J_sameA, J_sameF, aL_same, Nat.add_left_cancel_iff, Nat.add_eq_left, Nat.left_eq_add, not_false_eq_true, Nat.reduceEqDiff, Nat.reduceAdd, J_add, J_sub, J_mul, J_neg, J_and, J_or, J_xor, J_shl, J_shr, J_div, J_i2b, J_i2l, J_l2i, J_lcm, J_max, J_min, J_nab, J_nao, rdA, rdF, rdL, wA_fold, wF_fold, wL_fold, wC_fold]
                refine ⟨fun c39 => ?_, fun c39 => ?_⟩
                · have t40 : r38 = 0 := ((Jeq gr38 (by decide)).mp c39)
                  replace w := w.1 t40
                  refine ⟨(ls256 C_h37), ?_⟩
                  refine Ex.mono w (Nat.le_refl _) ?_
                  rintro v41 h42 ⟨r43, gr43, rfl, s64, w⟩
                  refine ⟨_, rfl, ?_⟩
                  have C_h42 := Lay_SH s64 C_h37
                  try simp only [aI_wAL, fI_wAL, aL_wA, aL_wF, aI_wA_ne, aI_wF_ne, fI_wA_ne, fI_wF_ne, fI_wF_nk, aL_wAL_ne, J_sameA, J_sameF, aL_same, Nat.add_left_cancel_iff, Nat.add_eq_left, Nat.left_eq_add, not_false_eq_true, Nat.reduceEqDiff, Nat.reduceAdd, J_add, J_sub, J_mul, J_neg, J_and, J_or, J_xor, J_shl, J_shr, J_div, J_i2b, J_i2l, J_l2i, J_lcm, J_max, J_min, J_nab, J_nao, rdA, rdF, rdL, wA_fold, wF_fold, wL_fold, wC_fold]
                  refine ⟨fun c44 => ?_, fun c44 => ?_⟩
                  · have t45 : r43 = 0 := ((Jeq gr43 (by decide)).mp c44)
                    replace w := w.1 t45
                    refine ⟨(ls256 C_h42), ?_⟩
                    refine Ex.mono w (Nat.le_refl _) ?_
                    rintro v46 h47 ⟨r48, gr48, rfl, s63, w⟩
                    refine ⟨_, rfl, ?_⟩
                    have C_h47 := Lay_SH s63 C_h42
                    try simp only [aI_wAL, fI_wAL, aL_wA, aL_wF, aI_wA_ne, aI_wF_ne, fI_wA_ne, fI_wF_ne, fI_wF_nk, aL_wAL_ne, J_sameA, J_sameF, aL_same, Nat.add_left_cancel_iff, Nat.add_eq_left, Nat.left_eq_add, not_false_eq_true, Nat.reduceEqDiff, Nat.reduceAdd, J_add, J_sub, J_mul, J_neg, J_and, J_or, J_xor, J_shl, J_shr, J_div, J_i2b, J_i2l, J_l2i, J_lcm, J_max, J_min, J_nab, J_nao, rdA, rdF, rdL, wA_fold, wF_fold, wL_fold, wC_fold]
                    refine ⟨fun c49 => ?_, fun c49 => ?_⟩
                    · have t50 : r48 = 0 := ((Jeq gr48 (by decide)).mp c49)
                      replace w := w.1 t50
                      refine ⟨(ls256 C_h47), ?_⟩
                      refine Ex.mono w (Nat.le_refl _) ?_
                      rintro v51 h52 ⟨r53, gr53, rfl, s62, w⟩
                      refine ⟨_, rfl, ?_⟩
                      have C_h52 := Lay_SH s62 C_h47
                      try simp only [aI_wAL, fI_wAL, aL_wA, aL_wF, aI_wA_ne, aI_wF_ne, fI_wA_ne, fI_wF_ne, fI_wF_nk, aL_wAL_ne, J_sameA, J_sameF, aL_same, Nat.add_left_cancel_iff, Nat.add_eq_left, Nat.left_eq_add, not_false_eq_true, Nat.reduceEqDiff, Nat.reduceAdd, J_add, J_sub, J_mul, J_neg, J_and, J_or, J_xor, J_shl, J_shr, J_div, J_i2b, J_i2l, J_l2i, J_lcm, J_max, J_min, J_nab, J_nao, rdA, rdF, rdL, wA_fold, wF_fold, wL_fold, wC_fold]
                      refine ⟨fun c54 => ?_, fun c54 => ?_⟩
                      · have t55 : r53 = 0 := ((Jeq gr53 (by decide)).mp c54)
                        replace w := w.1 t55
                        refine ⟨(ls256 C_h52), ?_⟩
                        refine Ex.mono w (Nat.le_refl _) ?_
                        rintro v56 h57 ⟨r58, gr58, rfl, s61, w⟩
                        refine ⟨_, rfl, ?_⟩
                        have C_h57 := Lay_SH s61 C_h52
                        try simp only [aI_wAL, fI_wAL, aL_wA, aL_wF, aI_wA_ne, aI_wF_ne, fI_wA_ne, fI_wF_ne, fI_wF_nk, aL_wAL_ne, J_sameA, J_sameF, aL_same, Nat.add_left_cancel_iff, Nat.add_eq_left, Nat.left_eq_add, not_false_eq_true, Nat.reduceEqDiff, Nat.reduceAdd, J_add, J_sub, J_mul, J_neg, J_and, J_or, J_xor, J_shl, J_shr, J_div, J_i2b, J_i2l, J_l2i, J_lcm, J_max, J_min, J_nab, J_nao, rdA, rdF, rdL, wA_fold, wF_fold, wL_fold, wC_fold]
                        refine ⟨fun c59 => ?_, fun c59 => ?_⟩
                        · have t60 : r58 = 0 := ((Jeq gr58 (by decide)).mp c59)
                          replace w := w.1 t60
                          exact w
                        · have t60 : ¬ r58 = 0 := (fun e => c59 ((Jeq gr58 (by decide)).mpr e))
                          replace w := w.2 t60
                          exact w
                      · have t55 : ¬ r53 = 0 := (fun e => c54 ((Jeq gr53 (by decide)).mpr e))
                        replace w := w.2 t55
                        exact w
                    · have t50 : ¬ r48 = 0 := (fun e => c49 ((Jeq gr48 (by decide)).mpr e))
                      replace w := w.2 t50
                      exact w
                  · have t45 : ¬ r43 = 0 := (fun e => c44 ((Jeq gr43 (by decide)).mpr e))
                    replace w := w.2 t45
                    exact w
                · have t40 : ¬ r38 = 0 := (fun e => c39 ((Jeq gr38 (by decide)).mpr e))
                  replace w := w.2 t40
                  exact w
              · have t35 : ¬ r33 = 0 := (fun e => c34 ((Jeq gr33 (by decide)).mpr e))
                replace w := w.2 t35
                exact w
            · have t30 : ¬ r28 = 0 := (fun e => c29 ((Jeq gr28 (by decide)).mpr e))
              replace w := w.2 t30
              exact w
          · have t25 : ¬ r23 = 0 := (fun e => c24 ((Jeq gr23 (by decide)).mpr e))
            replace w := w.2 t25
            exact w
        · have t20 : ¬ r18 = 0 := (fun e => c19 ((Jeq gr18 (by decide)).mpr e))
          replace w := w.2 t20
          exact w
      · have t15 : ¬ r13 = 0 := (fun e => c14 ((Jeq gr13 (by decide)).mpr e))
        replace w := w.2 t15
        exact w
    · have t10 : ¬ r8 = 0 := (fun e => c9 ((Jeq gr8 (by decide)).mpr e))
      replace w := w.2 t10
      exact w
  · have t5 : ¬ r3 = 0 := (fun e => c4 ((Jeq gr3 (by decide)).mpr e))
    replace w := w.2 t5
    exact w
theorem m197 {X : Cst} {d : Nat} {L j : Int} {tp : Int → Int} {h : AH} {Q : Post} (C : Lay h) (hd : 3 ≤ d) (K : RkC h tp L j 0) (k : ∀ h', Fr TNx h h' → RkC h' tp L j 0 → fI h' 256 8 = j → Q (some (.int (J (wdx tp L j)))) h') : Ex X PG d 197 0 [some (.ref 256)] [] h Q := by
  obtain ⟨d, rfl⟩ : ∃ e, d = e + 1 := ⟨d - 1, by omega⟩
  refine r197_0 C ?_
  unfold wdx at k
  refine m177s ((Fr.rf (T := TNx)).C C) (by omega) K (s := 5) (by decide) (by decide) (fun y l h0 F0 K0 e0 => ⟨1, by omega, rfl, F0.1, fun z => absurd z (by decide), fun _ => ?_⟩) (fun n0 h0 F0 K0 e0 => ⟨0, by omega, rfl, F0.1, fun _ => ?_, fun z => absurd rfl z⟩)
  · rw [pI_pos y] at k; exact k h0 F0 K0 e0
  have G0 : Fr TNx h h0 := F0
  refine m177s (G0.C C) (by omega) K0 (s := 7) (by decide) (by decide) (fun y l h1 F1 K1 e1 => ⟨1, by omega, rfl, F1.1, fun z => absurd z (by decide), fun _ => ?_⟩) (fun n1 h1 F1 K1 e1 => ⟨0, by omega, rfl, F1.1, fun _ => ?_, fun z => absurd rfl z⟩)
  · rw [pI_neg n0, pI_pos y] at k; exact k h1 (G0.tr F1) K1 e1
  have G1 : Fr TNx h h1 := (G0.tr F1)
  refine m177s (G1.C C) (by omega) K1 (s := 1) (by decide) (by decide) (fun y l h2 F2 K2 e2 => ⟨1, by omega, rfl, F2.1, fun z => absurd z (by decide), fun _ => ?_⟩) (fun n2 h2 F2 K2 e2 => ⟨0, by omega, rfl, F2.1, fun _ => ?_, fun z => absurd rfl z⟩)
  · rw [pI_neg n0, pI_neg n1, pI_pos y] at k; exact k h2 (G1.tr F2) K2 e2
  have G2 : Fr TNx h h2 := (G1.tr F2)
  refine m177s (G2.C C) (by omega) K2 (s := 8) (by decide) (by decide) (fun y l h3 F3 K3 e3 => ⟨1, by omega, rfl, F3.1, fun z => absurd z (by decide), fun _ => ?_⟩) (fun n3 h3 F3 K3 e3 => ⟨0, by omega, rfl, F3.1, fun _ => ?_, fun z => absurd rfl z⟩)
  · rw [pI_neg n0, pI_neg n1, pI_neg n2, pI_pos y] at k; exact k h3 (G2.tr F3) K3 e3
  have G3 : Fr TNx h h3 := (G2.tr F3)
  refine m177s (G3.C C) (by omega) K3 (s := 9) (by decide) (by decide) (fun y l h4 F4 K4 e4 => ⟨1, by omega, rfl, F4.1, fun z => absurd z (by decide), fun _ => ?_⟩) (fun n4 h4 F4 K4 e4 => ⟨0, by omega, rfl, F4.1, fun _ => ?_, fun z => absurd rfl z⟩)
  · rw [pI_neg n0, pI_neg n1, pI_neg n2, pI_neg n3, pI_pos y] at k; exact k h4 (G3.tr F4) K4 e4
  have G4 : Fr TNx h h4 := (G3.tr F4)
  refine m177s (G4.C C) (by omega) K4 (s := 10) (by decide) (by decide) (fun y l h5 F5 K5 e5 => ⟨1, by omega, rfl, F5.1, fun z => absurd z (by decide), fun _ => ?_⟩) (fun n5 h5 F5 K5 e5 => ⟨0, by omega, rfl, F5.1, fun _ => ?_, fun z => absurd rfl z⟩)
  · rw [pI_neg n0, pI_neg n1, pI_neg n2, pI_neg n3, pI_neg n4, pI_pos y] at k; exact k h5 (G4.tr F5) K5 e5
  have G5 : Fr TNx h h5 := (G4.tr F5)
  refine m177s (G5.C C) (by omega) K5 (s := 11) (by decide) (by decide) (fun y l h6 F6 K6 e6 => ⟨1, by omega, rfl, F6.1, fun z => absurd z (by decide), fun _ => ?_⟩) (fun n6 h6 F6 K6 e6 => ⟨0, by omega, rfl, F6.1, fun _ => ?_, fun z => absurd rfl z⟩)
  · rw [pI_neg n0, pI_neg n1, pI_neg n2, pI_neg n3, pI_neg n4, pI_neg n5, pI_pos y] at k; exact k h6 (G5.tr F6) K6 e6
  have G6 : Fr TNx h h6 := (G5.tr F6)
  refine m177s (G6.C C) (by omega) K6 (s := 4) (by decide) (by decide) (fun y l h7 F7 K7 e7 => ⟨1, by omega, rfl, F7.1, fun z => absurd z (by decide), fun _ => ?_⟩) (fun n7 h7 F7 K7 e7 => ⟨0, by omega, rfl, F7.1, fun _ => ?_, fun z => absurd rfl z⟩)
  · rw [pI_neg n0, pI_neg n1, pI_neg n2, pI_neg n3, pI_neg n4, pI_neg n5, pI_neg n6, pI_pos y] at k; exact k h7 (G6.tr F7) K7 e7
  have G7 : Fr TNx h h7 := (G6.tr F7)
  refine m177s (G7.C C) (by omega) K7 (s := 12) (by decide) (by decide) (fun y l h8 F8 K8 e8 => ⟨1, by omega, rfl, F8.1, fun z => absurd z (by decide), fun _ => ?_⟩) (fun n8 h8 F8 K8 e8 => ⟨0, by omega, rfl, F8.1, fun _ => ?_, fun z => absurd rfl z⟩)
  · rw [pI_neg n0, pI_neg n1, pI_neg n2, pI_neg n3, pI_neg n4, pI_neg n5, pI_neg n6, pI_neg n7, pI_pos y] at k; exact k h8 (G7.tr F8) K8 e8
  have G8 : Fr TNx h h8 := (G7.tr F8)
  refine m177s (G8.C C) (by omega) K8 (s := 13) (by decide) (by decide) (fun y l h9 F9 K9 e9 => ⟨1, by omega, rfl, F9.1, fun z => absurd z (by decide), fun _ => ?_⟩) (fun n9 h9 F9 K9 e9 => ⟨0, by omega, rfl, F9.1, fun _ => ?_, fun z => absurd rfl z⟩)
  · rw [pI_neg n0, pI_neg n1, pI_neg n2, pI_neg n3, pI_neg n4, pI_neg n5, pI_neg n6, pI_neg n7, pI_neg n8, pI_pos y] at k; exact k h9 (G8.tr F9) K9 e9
  have G9 : Fr TNx h h9 := (G8.tr F9)
  refine m177s (G9.C C) (by omega) K9 (s := 14) (by decide) (by decide) (fun y l h10 F10 K10 e10 => ⟨1, by omega, rfl, F10.1, fun z => absurd z (by decide), fun _ => ?_⟩) (fun n10 h10 F10 K10 e10 => ⟨0, by omega, rfl, F10.1, fun _ => ?_, fun z => absurd rfl z⟩)
  · rw [pI_neg n0, pI_neg n1, pI_neg n2, pI_neg n3, pI_neg n4, pI_neg n5, pI_neg n6, pI_neg n7, pI_neg n8, pI_neg n9, pI_pos y] at k; exact k h10 (G9.tr F10) K10 e10
  have G10 : Fr TNx h h10 := (G9.tr F10)
  refine m177s (G10.C C) (by omega) K10 (s := 15) (by decide) (by decide) (fun y l h11 F11 K11 e11 => ⟨1, by omega, rfl, F11.1, fun z => absurd z (by decide), fun _ => ?_⟩) (fun n11 h11 F11 K11 e11 => ⟨0, by omega, rfl, F11.1, fun _ => ?_, fun z => absurd rfl z⟩)
  · rw [pI_neg n0, pI_neg n1, pI_neg n2, pI_neg n3, pI_neg n4, pI_neg n5, pI_neg n6, pI_neg n7, pI_neg n8, pI_neg n9, pI_neg n10, pI_pos y] at k; exact k h11 (G10.tr F11) K11 e11
  have G11 : Fr TNx h h11 := (G10.tr F11)
  rw [pI_neg n0, pI_neg n1, pI_neg n2, pI_neg n3, pI_neg n4, pI_neg n5, pI_neg n6, pI_neg n7, pI_neg n8, pI_neg n9, pI_neg n10, pI_neg n11] at k
  exact k h11 G11 K11 e11
theorem tkK_1 {tp : Int → Int} {L j : Int} : tkK tp L j = 1 ↔ j < L ∧ dgP (tp j) := by
  refine ⟨tkK_L, fun z => ?_⟩
  unfold tkK
  rw [pI_neg (by omega), pI_pos z.2]
theorem RP.mk12 {h : AH} {tp : Int → Int} {L j p : Int} {c : Cd} {t : Nat} (R : RP h tp L j p c t) (ht : t < 6) (hc : c.length ≤ 400) (hp : 0 ≤ p ∧ p < 60) : RP (wF h 256 12 (p + 1)) tp L j (p + 1) c t := by
  have F : Fr (fun c k => c = 256 ∧ k = 12) h (wF h 256 12 (p + 1)) := Fr.rf.wF ⟨rfl, rfl⟩
  exact ⟨R.1.fr F (by omega) (by omega) (by omega) (by omega), fI_wF_eq (by omega), by rw [fI_wF_nk (by decide)]; exact R.2.2.1, R.2.2.2.fr ht hc F (fun a k z => by unfold TRp; omega)⟩
theorem RP.put {h h' : AH} {tp : Int → Int} {L j p : Int} {c c' : Cd} {t : Nat} (R : RP h tp L j p c t) (F : Fr (TRp t) h h') (G : CoR h' t c') : RP h' tp L j p c' t :=
  ⟨R.1.fr F (by unfold TRp; omega) (by unfold TRp; omega) (by unfold TRp; omega) (by unfold TRp; omega), by rw [F.f 256 12 (by unfold TRp; omega)]; exact R.2.1, by rw [F.f 256 11 (by unfold TRp; omega)]; exact R.2.2.1, G⟩
-- OutwardDoorsModel.value()Z at 0
set_option maxRecDepth 20000 in
set_option maxHeartbeats 4000000 in
theorem r194_0 {X : Cst} {d : Nat}  {h : AH} {Q : Post} (C_h : Lay h)
  (w : Ex X PG d 175 0 [some (.ref 256)] [] h (fun v1 h2 => ∃ r3 : Int, (-2147483648 ≤ r3 ∧ r3 < 2147483648) ∧ v1 = some (.int (J r3)) ∧ SH h h2 ∧ Ex X PG d 185 0 [some (.ref 256), some (.int (J (fI h2 256 8)))] [] h2 (fun v4 h5 => ∃ r6 : Int, (-2147483648 ≤ r6 ∧ r6 < 2147483648) ∧ v4 = some (.int (J r6)) ∧ SH h2 h5 ∧ ((r6 = 0 → Ex X PG d 197 0 [some (.ref 256)] [] h5 (fun v9 h10 => ∃ r11 : Int, (-2147483648 ≤ r11 ∧ r11 < 2147483648) ∧ v9 = some (.int (J r11)) ∧ SH h5 h10 ∧ ((0 ≤ r11 → Ex X PG d 195 0 [some (.ref 256), some (.int (J (fI h2 256 8)))] [] h10 (fun v14 h15 => ∃ r16 : Int, (-2147483648 ≤ r16 ∧ r16 < 2147483648) ∧ v14 = some (.int (J r16)) ∧ SH h10 h15 ∧ ((¬ r16 = 0 → Ex X PG d 182 0 [some (.ref 256)] [] h15 (fun v19 h20 => v19 = none ∧ SH h15 h20 ∧ Ex X PG d 196 0 [some (.ref 256), some (.int (J 1)), some (.int (J r11))] [] h20 (fun v21 h22 => v21 = none ∧ SH h20 h22 ∧ Q (some (.int (J 1))) h22))) ∧ (r16 = 0 → Q (some (.int (J 0))) h15)))) ∧ (¬ 0 ≤ r11 → Ex X PG d 179 0 [some (.ref 256), some (.int (J 0)), some (.int (J (fI h2 256 8)))] [] h10 (fun v26 h27 => ∃ r28 : Int, (-2147483648 ≤ r28 ∧ r28 < 2147483648) ∧ v26 = some (.int (J r28)) ∧ SH h10 h27 ∧ (r28 = 0 ∨ r28 = 1) ∧ Q (some (.int (J r28))) h27))))) ∧ (¬ r6 = 0 → Ex X PG d 184 0 [some (.ref 256), some (.int (J 0)), some (.int (J 99999)), none, none] [] h5 (fun v32 h33 => ∃ r34 : Int, (-2147483648 ≤ r34 ∧ r34 < 2147483648) ∧ v32 = some (.int (J r34)) ∧ SH h5 h33 ∧ ((r34 = 0 → Q (some (.int (J 0))) h33) ∧ (¬ r34 = 0 → Ex X PG d 195 0 [some (.ref 256), some (.int (J (fI h2 256 8)))] [] h33 (fun v37 h38 => ∃ r39 : Int, (-2147483648 ≤ r39 ∧ r39 < 2147483648) ∧ v37 = some (.int (J r39)) ∧ SH h33 h38 ∧ ((¬ r39 = 0 → Ex X PG d 196 0 [some (.ref 256), some (.int (J 0)), some (.int (J (fI h38 256 10)))] [] h38 (fun v42 h43 => v42 = none ∧ SH h38 h43 ∧ Q (some (.int (J 1))) h43)) ∧ (r39 = 0 → Q (some (.int (J 0))) h38))))))))))) :
    Ex X PG (d + 1) 194 0 [some (.ref 256), none, none] [] h Q := by
  refine wpx_ok (cut := []) 28 d 194 0 _ _ _ _ ?_
  show hs h 256 = (0, 11) ∧ Ex X PG d 175 0 [some (.ref 256)] [] h (fun v1 h2 => ∃ r3, v1 = some (.int r3) ∧ hs h2 256 = (0, 11) ∧ hs h2 256 = (0, 11) ∧ hs h2 256 = (0, 11) ∧ Ex X PG d 185 0 [some (.ref 256), some (.int (hF h2 256 8))] [] h2 (fun v4 h5 => ∃ r6, v4 = some (.int r6) ∧ ((r6 = (J 0) → hs h5 256 = (0, 11) ∧ Ex X PG d 197 0 [some (.ref 256)] [] h5 (fun v9 h10 => ∃ r11, v9 = some (.int r11) ∧ (((J 0) ≤ r11 → hs h10 256 = (0, 11) ∧ Ex X PG d 195 0 [some (.ref 256), some (.int (hF h2 256 8))] [] h10 (fun v14 h15 => ∃ r16, v14 = some (.int r16) ∧ ((¬ r16 = (J 0) → hs h15 256 = (0, 11) ∧ Ex X PG d 182 0 [some (.ref 256)] [] h15 (fun v19 h20 => v19 = none ∧ hs h20 256 = (0, 11) ∧ Ex X PG d 196 0 [some (.ref 256), some (.int (J 1)), some (.int r11)] [] h20 (fun v21 h22 => v21 = none ∧ (J 1 = J 0 ∨ J 1 = J 1) ∧ Q (some (.int (J 1))) h22))) ∧ (¬ (¬ r16 = (J 0)) → (J 0 = J 0 ∨ J 0 = J 1) ∧ Q (some (.int (J 0))) h15)))) ∧ (¬ ((J 0) ≤ r11) → hs h10 256 = (0, 11) ∧ Ex X PG d 179 0 [some (.ref 256), some (.int (J 0)), some (.int (hF h2 256 8))] [] h10 (fun v26 h27 => ∃ r28, v26 = some (.int r28) ∧ (r28 = J 0 ∨ r28 = J 1) ∧ Q (some (.int r28)) h27))))) ∧ (¬ (r6 = (J 0)) → hs h5 256 = (0, 11) ∧ Ex X PG d 184 0 [some (.ref 256), some (.int (J 0)), some (.int (J 99999)), none, none] [] h5 (fun v32 h33 => ∃ r34, v32 = some (.int r34) ∧ ((r34 = (J 0) → (J 0 = J 0 ∨ J 0 = J 1) ∧ Q (some (.int (J 0))) h33) ∧ (¬ (r34 = (J 0)) → hs h33 256 = (0, 11) ∧ Ex X PG d 195 0 [some (.ref 256), some (.int (hF h2 256 8))] [] h33 (fun v37 h38 => ∃ r39, v37 = some (.int r39) ∧ ((¬ r39 = (J 0) → hs h38 256 = (0, 11) ∧ hs h38 256 = (0, 11) ∧ Ex X PG d 196 0 [some (.ref 256), some (.int (J 0)), some (.int (hF h38 256 10))] [] h38 (fun v42 h43 => v42 = none ∧ (J 1 = J 0 ∨ J 1 = J 1) ∧ Q (some (.int (J 1))) h43)) ∧ (¬ (¬ r39 = (J 0)) → (J 0 = J 0 ∨ J 0 = J 1) ∧ Q (some (.int (J 0))) h38))))))))))
  try simp only [aI_wAL, fI_wAL, aL_wA, aL_wF, aI_wA_ne, aI_wF_ne, fI_wA_ne, fI_wF_ne, fI_wF_nk, aL_wAL_ne, J_sameA, J_sameF, aL_same, Nat.add_left_cancel_iff, Nat.add_eq_left, Nat.left_eq_add, not_false_eq_true, Nat.reduceEqDiff, Nat.reduceAdd, J_add, J_sub, J_mul, J_neg, J_and, J_or, J_xor, J_shl, J_shr, J_div, J_i2b, J_i2l, J_l2i, J_lcm, J_max, J_min, J_nab, J_nao, rdA, rdF, rdL, wA_fold, wF_fold, wL_fold, wC_fold]
  refine ⟨(ls256 C_h), ?_⟩
  refine Ex.mono w (Nat.le_refl _) ?_
  rintro v1 h2 ⟨r3, gr3, rfl, s48, w⟩
  refine ⟨_, rfl, ?_⟩
  have C_h2 := Lay_SH s48 C_h
  try simp only [aI_wAL, fI_wAL, aL_wA, aL_wF, aI_wA_ne, aI_wF_ne, fI_wA_ne, fI_wF_ne, fI_wF_nk, aL_wAL_ne, J_sameA, J_sameF, aL_same, Nat.add_left_cancel_iff, Nat.add_eq_left, Nat.left_eq_add, not_false_eq_true, Nat.reduceEqDiff, Nat.reduceAdd, J_add, J_sub, J_mul, J_neg, J_and, J_or, J_xor, J_shl, J_shr, J_div, J_i2b, J_i2l, J_l2i, J_lcm, J_max, J_min, J_nab, J_nao, rdA, rdF, rdL, wA_fold, wF_fold, wL_fold, wC_fold]
  refine ⟨(ls256 C_h2), ?_⟩
  refine ⟨(ls256 C_h2), ?_⟩
  refine ⟨(ls256 C_h2), ?_⟩
  refine Ex.mono w (Nat.le_refl _) ?_
  rintro v4 h5 ⟨r6, gr6, rfl, s47, w⟩
  refine ⟨_, rfl, ?_⟩
  have C_h5 := Lay_SH s47 C_h2
  try simp only [aI_wAL, fI_wAL, aL_wA, aL_wF, aI_wA_ne, aI_wF_ne, fI_wA_ne, fI_wF_ne, fI_wF_nk, aL_wAL_ne, J_sameA, J_sameF, aL_same, Nat.add_left_cancel_iff, Nat.add_eq_left, Nat.left_eq_add, not_false_eq_true, Nat.reduceEqDiff, Nat.reduceAdd, J_add, J_sub, J_mul, J_neg, J_and, J_or, J_xor, J_shl, J_shr, J_div, J_i2b, J_i2l, J_l2i, J_lcm, J_max, J_min, J_nab, J_nao, rdA, rdF, rdL, wA_fold, wF_fold, wL_fold, wC_fold]
  refine ⟨fun c7 => ?_, fun c7 => ?_⟩
  · have t8 : r6 = 0 := ((Jeq gr6 (by decide)).mp c7)
    replace w := w.1 t8
    refine ⟨(ls256 C_h5), ?_⟩
    refine Ex.mono w (Nat.le_refl _) ?_
    rintro v9 h10 ⟨r11, gr11, rfl, s31, w⟩
    refine ⟨_, rfl, ?_⟩
    have C_h10 := Lay_SH s31 C_h5
    try simp only [aI_wAL, fI_wAL, aL_wA, aL_wF, aI_wA_ne, aI_wF_ne, fI_wA_ne, fI_wF_ne, fI_wF_nk, aL_wAL_ne, J_sameA, J_sameF, aL_same, Nat.add_left_cancel_iff, Nat.add_eq_left, Nat.left_eq_add, not_false_eq_true, Nat.reduceEqDiff, Nat.reduceAdd, J_add, J_sub, J_mul, J_neg, J_and, J_or, J_xor, J_shl, J_shr, J_div, J_i2b, J_i2l, J_l2i, J_lcm, J_max, J_min, J_nab, J_nao, rdA, rdF, rdL, wA_fold, wF_fold, wL_fold, wC_fold]
    refine ⟨fun c12 => ?_, fun c12 => ?_⟩
    · have t13 : 0 ≤ r11 := ((Jle (by decide) gr11).mp c12)
      replace w := w.1 t13
      refine ⟨(ls256 C_h10), ?_⟩
      refine Ex.mono w (Nat.le_refl _) ?_
      rintro v14 h15 ⟨r16, gr16, rfl, s25, w⟩
      refine ⟨_, rfl, ?_⟩
      have C_h15 := Lay_SH s25 C_h10
      try simp only [aI_wAL, fI_wAL, aL_wA, aL_wF, aI_wA_ne, aI_wF_ne, fI_wA_ne, fI_wF_ne, fI_wF_nk, aL_wAL_ne, J_sameA, J_sameF, aL_same, Nat.add_left_cancel_iff, Nat.add_eq_left, Nat.left_eq_add, not_false_eq_true, Nat.reduceEqDiff, Nat.reduceAdd, J_add, J_sub, J_mul, J_neg, J_and, J_or, J_xor, J_shl, J_shr, J_div, J_i2b, J_i2l, J_l2i, J_lcm, J_max, J_min, J_nab, J_nao, rdA, rdF, rdL, wA_fold, wF_fold, wL_fold, wC_fold]
      refine ⟨fun c17 => ?_, fun c17 => ?_⟩
      · have t18 : ¬ r16 = 0 := (fun e => c17 ((Jeq gr16 (by decide)).mpr e))
        replace w := w.1 t18
        refine ⟨(ls256 C_h15), ?_⟩
        refine Ex.mono w (Nat.le_refl _) ?_
        rintro v19 h20 ⟨rfl, s24, w⟩
        refine ⟨rfl, ?_⟩
        have C_h20 := Lay_SH s24 C_h15
        try simp only [aI_wAL, fI_wAL, aL_wA, aL_wF, aI_wA_ne, aI_wF_ne, fI_wA_ne, fI_wF_ne, fI_wF_nk, aL_wAL_ne, J_sameA, J_sameF, aL_same, Nat.add_left_cancel_iff, Nat.add_eq_left, Nat.left_eq_add, not_false_eq_true, Nat.reduceEqDiff, Nat.reduceAdd, J_add, J_sub, J_mul, J_neg, J_and, J_or, J_xor, J_shl, J_shr, J_div, J_i2b, J_i2l, J_l2i, J_lcm, J_max, J_min, J_nab, J_nao, rdA, rdF, rdL, wA_fold, wF_fold, wL_fold, wC_fold]
        refine ⟨(ls256 C_h20), ?_⟩
        refine Ex.mono w (Nat.le_refl _) ?_
        rintro v21 h22 ⟨rfl, s23, w⟩
        refine ⟨rfl, ?_⟩
        have C_h22 := Lay_SH s23 C_h20
        try simp only [aI_wAL, fI_wAL, aL_wA, aL_wF, aI_wA_ne, aI_wF_ne, fI_wA_ne, fI_wF_ne, fI_wF_nk, aL_wAL_ne, J_sameA, J_sameF, aL_same, Nat.add_left_cancel_iff, Nat.add_eq_left, Nat.left_eq_add, not_false_eq_true, Nat.reduceEqDiff, Nat.reduceAdd, J_add, J_sub, J_mul, J_neg, J_and, J_or, J_xor, J_shl, J_shr, J_div, J_i2b, J_i2l, J_l2i, J_lcm, J_max, J_min, J_nab, J_nao, rdA, rdF, rdL, wA_fold, wF_fold, wL_fold, wC_fold]
        exact ⟨(Or.inr (by trivial)), w⟩
      · have t18 : r16 = 0 := ((Jeq gr16 (by decide)).mp (Classical.byContradiction c17))
        replace w := w.2 t18
        exact ⟨(Or.inl (by trivial)), w⟩
    · have t13 : ¬ 0 ≤ r11 := (fun e => c12 ((Jle (by decide) gr11).mpr e))
      replace w := w.2 t13
      refine ⟨(ls256 C_h10), ?_⟩
      refine Ex.mono w (Nat.le_refl _) ?_
      rintro v26 h27 ⟨r28, gr28, rfl, s30, w⟩
      refine ⟨_, rfl, ?_⟩
      have C_h27 := Lay_SH s30 C_h10
      try simp only [aI_wAL, fI_wAL, aL_wA, aL_wF, aI_wA_ne, aI_wF_ne, fI_wA_ne, fI_wF_ne, fI_wF_nk, aL_wAL_ne, J_sameA, J_sameF, aL_same, Nat.add_left_cancel_iff, Nat.add_eq_left, Nat.left_eq_add, not_false_eq_true, Nat.reduceEqDiff, Nat.reduceAdd, J_add, J_sub, J_mul, J_neg, J_and, J_or, J_xor, J_shl, J_shr, J_div, J_i2b, J_i2l, J_l2i, J_lcm, J_max, J_min, J_nab, J_nao, rdA, rdF, rdL, wA_fold, wF_fold, wL_fold, wC_fold]
      obtain ⟨k29, w⟩ := w
      exact ⟨(k29.imp (congrArg J) (congrArg J)), w⟩
  · have t8 : ¬ r6 = 0 := (fun e => c7 ((Jeq gr6 (by decide)).mpr e))
    replace w := w.2 t8
    refine ⟨(ls256 C_h5), ?_⟩
    refine Ex.mono w (Nat.le_refl _) ?_
    rintro v32 h33 ⟨r34, gr34, rfl, s46, w⟩
    refine ⟨_, rfl, ?_⟩
    have C_h33 := Lay_SH s46 C_h5
    try simp only [aI_wAL, fI_wAL, aL_wA, aL_wF, aI_wA_ne, aI_wF_ne, fI_wA_ne, fI_wF_ne, fI_wF_nk, aL_wAL_ne, J_sameA, J_sameF, aL_same, Nat.add_left_cancel_iff, Nat.add_eq_left, Nat.left_eq_add, not_false_eq_true, Nat.reduceEqDiff, Nat.reduceAdd, J_add, J_sub, J_mul, J_neg, J_and, J_or, J_xor, J_shl, J_shr, J_div, J_i2b, J_i2l, J_l2i, J_lcm, J_max, J_min, J_nab, J_nao, rdA, rdF, rdL, wA_fold, wF_fold, wL_fold, wC_fold]
    refine ⟨fun c35 => ?_, fun c35 => ?_⟩
    · have t36 : r34 = 0 := ((Jeq gr34 (by decide)).mp c35)
      replace w := w.1 t36
      exact ⟨(Or.inl (by trivial)), w⟩
    · have t36 : ¬ r34 = 0 := (fun e => c35 ((Jeq gr34 (by decide)).mpr e))
      replace w := w.2 t36
      refine ⟨(ls256 C_h33), ?_⟩
      refine Ex.mono w (Nat.le_refl _) ?_
      rintro v37 h38 ⟨r39, gr39, rfl, s45, w⟩
      refine ⟨_, rfl, ?_⟩
      have C_h38 := Lay_SH s45 C_h33
      try simp only [aI_wAL, fI_wAL, aL_wA, aL_wF, aI_wA_ne, aI_wF_ne, fI_wA_ne, fI_wF_ne, fI_wF_nk, aL_wAL_ne, J_sameA, J_sameF, aL_same, Nat.add_left_cancel_iff, Nat.add_eq_left, Nat.left_eq_add, not_false_eq_true, Nat.reduceEqDiff, Nat.reduceAdd, J_add, J_sub, J_mul, J_neg, J_and, J_or, J_xor, J_shl, J_shr, J_div, J_i2b, J_i2l, J_l2i, J_lcm, J_max, J_min, J_nab, J_nao, rdA, rdF, rdL, wA_fold, wF_fold, wL_fold, wC_fold]
      refine ⟨fun c40 => ?_, fun c40 => ?_⟩
      · have t41 : ¬ r39 = 0 := (fun e => c40 ((Jeq gr39 (by decide)).mpr e))
        replace w := w.1 t41
        refine ⟨(ls256 C_h38), ?_⟩
        refine ⟨(ls256 C_h38), ?_⟩
        refine Ex.mono w (Nat.le_refl _) ?_
        rintro v42 h43 ⟨rfl, s44, w⟩
        refine ⟨rfl, ?_⟩
        have C_h43 := Lay_SH s44 C_h38
        try simp only [aI_wAL, fI_wAL, aL_wA, aL_wF, aI_wA_ne, aI_wF_ne, fI_wA_ne, fI_wF_ne, fI_wF_nk, aL_wAL_ne, J_sameA, J_sameF, aL_same, Nat.add_left_cancel_iff, Nat.add_eq_left, Nat.left_eq_add, not_false_eq_true, Nat.reduceEqDiff, Nat.reduceAdd, J_add, J_sub, J_mul, J_neg, J_and, J_or, J_xor, J_shl, J_shr, J_div, J_i2b, J_i2l, J_l2i, J_lcm, J_max, J_min, J_nab, J_nao, rdA, rdF, rdL, wA_fold, wF_fold, wL_fold, wC_fold]
        exact ⟨(Or.inr (by trivial)), w⟩
      · have t41 : r39 = 0 := ((Jeq gr39 (by decide)).mp (Classical.byContradiction c40))
        replace w := w.2 t41
        exact ⟨(Or.inl (by trivial)), w⟩
theorem m194 {X : Cst} {d t : Nat} {L j p : Int} {tp : Int → Int} {c : Cd} {h : AH} {Q : Post} (C : Lay h) (hd : 4 ≤ d) (B : BT tp) (ht : t < 6) (R : RP h tp L j p c t) (hc : (c.length : Int) ≤ j) (hp : 0 ≤ p ∧ p ≤ 60) (k : RQs h tp L t (vl tp L j p c) Q) : Ex X PG d 194 0 [some (.ref 256), none, none] [] h Q := by
  obtain ⟨d, rfl⟩ : ∃ e, d = e + 1 := ⟨d - 1, by omega⟩
  have kj := R.1.j
  have sv := (seeV_is (tp := tp) (L := L) (j := j) B kj.1 kj.2.2.1).2.2
  have nb := nx_b (tp := tp) (L := L) (j := j) kj.1 kj.2.1
  refine r194_0 C ?_
  refine m175 C (by omega) R.1 (fun h2 F2 K2 e82 => ⟨_, by omega, rfl, F2.1, ?_⟩)
  have R2 := R.nx ht (by omega) F2 K2
  have F2s : Fr (TRz t) h h2 := F2.mo (fun _ _ => TNx_s)
  have C2 := F2.C C
  rw [e82]
  refine m185 (L := L) (tp := tp) C2 (by omega) K2.1 K2.2.1.1 kj.2.2.1 (by omega) ⟨_, bI_rg _, rfl, SH.rf, fun c0 => ?_, fun c0 => ?_⟩
  · have nd : ¬ tkK tp L j = 1 := fun z => by rw [bI_pos (tkK_1.mp z)] at c0; omega
    unfold vl at k
    rw [pI_neg nd] at k
    have wb := wdx_b tp L j
    refine m197 C2 (by omega) K2 (fun h3 F3 K3 e83 => ⟨_, by omega, rfl, F3.1, fun w0 => ?_, fun w0 => ?_⟩)
    · have nw : ¬ wdx tp L j = -1 := by omega
      rw [pI_neg nw] at k
      have R3 := R2.nx ht (by omega) F3 K3
      have F3s : Fr (TRz t) h h3 := F2s.tr (F3.mo (fun _ _ => TNx_s))
      have C3 := F3.C C2
      have lt := wdx_L kj.1 kj.2.1 nw
      obtain ⟨s, hs', es⟩ := wdx_w nw
      have le := (wc_pos kj.1 kj.2.1 (wSb s hs').1 es).2.1
      refine m195 (p := p) C3 (by omega) R3.2.1 K3.2.2.2.2 (fun np => ⟨1, by omega, rfl, SH.rf.wF, fun _ => ?_, fun z => absurd z (by decide)⟩) (fun e => ⟨0, by omega, rfl, SH.rf.wF, fun z => absurd rfl z, fun _ => ?_⟩)
      · rw [pI_neg np] at k
        have R4 := R3.mk12 ht (by omega) (by omega)
        have F4 : Fr (TRz t) h (wF h3 256 12 (p + 1)) := F3s.wF (by unfold TRz TRp; omega)
        refine m182w (Lay_SH SH.rf.wF C3) (by omega) R4.1 (by rw [fI_wF_nk (by decide)]; exact e83) ⟨lt, le⟩ (fun h5 F5 K5 => ⟨rfl, F5.1, ?_⟩)
        have R5 := R4.nx ht (by omega) F5 K5
        refine m196 (c := c) (F5.C (Lay_SH SH.rf.wF C3)) (by omega) ht R5.2.2.1 R5.2.2.2 (by omega) (by omega) (fun h6 F6 G6 => ⟨rfl, F6.1, ?_⟩)
        exact k.1 rfl h6 ((F4.tr (F5.mo (fun _ _ => TNx_s))).tr (F6.mo (fun _ _ z => Or.inr z))) (R5.put F6 G6)
      · rw [pI_pos e] at k
        exact k.bad (by omega) (F3s.wF (by unfold TRz TRp; omega)) (fI_wF_eq (by omega))
    · have ew : wdx tp L j = -1 := by omega
      rw [pI_pos ew] at k
      refine m179 (F3.C C2) (by omega) K3.2.2.2.2 ⟨0, by omega, rfl, SH.rf.wF, Or.inl rfl, ?_⟩
      exact k.bad (by omega) ((F2s.tr (F3.mo (fun _ _ => TNx_s))).wF (by unfold TRz TRp; omega)) (by rw [fI_wF_eq (by omega)]; omega)
  · have dg : tkK tp L j = 1 := tkK_1.mpr (Classical.byContradiction fun z => c0 (bI_neg z))
    unfold vl at k
    rw [pI_pos dg] at k
    have vb := tkV_b kj.1 dg
    have lt := (tkK_1.mp dg).1
    refine m184 C2 (by omega) K2 (by omega) (by omega) (fun e h3 F3 K3 e10 => ⟨1, by omega, rfl, F3.1, fun z => absurd z (by decide), fun _ => ?_⟩) (fun e h3 F3 e9 => ⟨0, by omega, rfl, F3.1, fun _ => ?_, fun z => absurd rfl z⟩)
    · have e' := nmF_0 kj.1 e
      have nv : ¬ tkV tp L j = -1 := by omega
      rw [pI_neg nv] at k
      have F3s : Fr (TRz t) h h3 := F2s.tr (F3.mo (fun _ _ => TNm_s))
      have C3 := F3.C C2
      have R3 : RP h3 tp L (nx tp L j) p c t := ⟨K3, by rw [F3.f 256 12 (by unfold TNm; omega)]; exact R2.2.1, by rw [F3.f 256 11 (by unfold TNm; omega)]; exact R2.2.2.1, R2.2.2.2.fr ht (by omega) F3 (fun a k z => by unfold TNm at z; unfold TRp; omega)⟩
      refine m195 (p := p) C3 (by omega) R3.2.1 K3.2.2.2.2 (fun np => ⟨1, by omega, rfl, SH.rf.wF, fun _ => ?_, fun z => absurd z (by decide)⟩) (fun e => ⟨0, by omega, rfl, SH.rf.wF, fun z => absurd rfl z, fun _ => ?_⟩)
      · rw [pI_neg np] at k
        have R4 := R3.mk12 ht (by omega) (by omega)
        have F4 : Fr (TRz t) h (wF h3 256 12 (p + 1)) := F3s.wF (by unfold TRz TRp; omega)
        rw [fI_wF_nk (by decide), e10]
        refine m196 (c := c) (Lay_SH SH.rf.wF C3) (by omega) ht R4.2.2.1 R4.2.2.2 (by omega) (by omega) (fun h6 F6 G6 => ⟨rfl, F6.1, ?_⟩)
        exact k.1 rfl h6 (F4.tr (F6.mo (fun _ _ z => Or.inr z))) (R4.put F6 G6)
      · rw [pI_pos e] at k
        exact k.bad (by omega) (F3s.wF (by unfold TRz TRp; omega)) (fI_wF_eq (by omega))
    · have ev : tkV tp L j = -1 := by
        apply Classical.byContradiction
        intro nv
        apply e
        unfold nmF
        rw [pI_pos dg, pI_pos ⟨by omega, fun z => z⟩]
      rw [pI_pos ev] at k
      refine k.bad (by omega) (F2s.tr (F3.mo (fun _ _ => TNm_s))) ?_
      rw [e9]
      unfold nmF
      rw [pI_pos dg, pI_neg (by omega)]
