/-! RULES as the class reads them: code, marks, values. -/
theorem or16 {a x : Int} (ha : 0 ≤ a ∧ a < 100000) (hx : 0 ≤ x ∧ x < 16) : ior (shl a (iand 4 31)) x = x + 16 * a := by
  obtain ⟨n, rfl⟩ := Int.eq_ofNat_of_zero_le ha.1
  obtain ⟨m, rfl⟩ := Int.eq_ofNat_of_zero_le hx.1
  rw [shl_l (n := 4) (by decide) (by omega), ior_nat (by omega) (by omega)]
  have : n * 2 ^ 4 ||| m = n * 2 ^ 4 + m := by
    rw [Nat.or_comm, Nat.mul_comm n, or_lo (show m < 2 ^ 4 by omega)]
  rw [this]
  omega
def CoC (h : AH) (ru : Nat) (c : Cd) : Prop := fI h ru 4 = c.length ∧ ∀ i : Int, 0 ≤ i → i < c.length → aI h (ru + 1) i = cm (cX c i).1 + 16 * (cX c i).2
def TAd (ru c k : Nat) : Prop := (c = ru ∧ k = 4) ∨ c = ru + 1
theorem CoC.fr {T : Nat → Nat → Prop} {h h' : AH} {ru : Nat} {c : Cd} (G : CoC h ru c) (F : Fr T h h') (n : ∀ a k, T a k → ¬ TAd ru a k) : CoC h' ru c := by
  unfold CoC
  rw [F.f ru 4 (fun z => n _ _ z (Or.inl ⟨rfl, rfl⟩)), F.a (ru + 1) (fun k z => n _ _ z (Or.inr rfl))]
  exact G
theorem cm_b {o : Int} (h : 0 ≤ o ∧ o < 15) : 1 ≤ cm o ∧ cm o < 16 := by unfold cm; (repeat' split) <;> omega
-- OutwardDoors$Rule.add(II)V at 0
set_option maxRecDepth 20000 in
set_option maxHeartbeats 4000000 in
theorem r9_0 {X : Cst} {d : Nat} {a : Nat} {x1 : Int} {x2 : Int} {h : AH} {Q : Post} (C_h : Lay h) (K_h_0 : RuleAt h a)
  (w : ((400 ≤ fI h a 4 → Q none h) ∧ (¬ 400 ≤ fI h a 4 → (0 ≤ fI h a 4 ∧ fI h a 4 < 400) ∧ Ex X PG (d + 1) 9 24 [some (.ref a), some (.int (J x1)), some (.int (J x2))] [] (wA h (a + 1) (fI h a 4) (ior (shl x2 (iand 4 31)) x1)) Q))) :
    Ex X PG (d + 1) 9 0 [some (.ref a), some (.int (J x1)), some (.int (J x2))] [] h Q := by
  refine wpx_ok (cut := [24]) 14 d 9 0 _ _ _ _ ?_
  show hs h a = (0, 4) ∧ (((J 400) ≤ (hF h a 4) → Q none h) ∧ (¬ ((J 400) ≤ (hF h a 4)) → hs h a = (0, 4) ∧ ∃ q3, hR h a 0 = some q3 ∧ hs h a = (0, 4) ∧ (hs h q3).1 = 1 ∧ ix (hF h a 4) (hs h q3).2 ∧ Ex X PG (d + 1) 9 24 [some (.ref a), some (.int (J x1)), some (.int (J x2))] [] (wI h q3 (Int32.toNatClampNeg (hF h a 4)) (((J x2) <<< ((J 4) &&& J 31)) ||| (J x1))) Q))
  try simp only [aI_wAL, fI_wAL, aL_wA, aL_wF, aI_wA_ne, aI_wF_ne, fI_wA_ne, fI_wF_ne, fI_wF_nk, aL_wAL_ne, J_sameA, J_sameF, aL_same, Nat.add_left_cancel_iff, Nat.add_eq_left, Nat.left_eq_add, not_false_eq_true, Nat.reduceEqDiff, Nat.reduceAdd, J_add, J_sub, J_mul, J_neg, J_and, J_or, J_xor, J_shl, J_shr, J_div, J_i2b, J_i2l, J_l2i, J_lcm, J_max, J_min, J_nab, J_nao, rdA, rdF, rdL, wA_fold, wF_fold, wL_fold, wC_fold]
  refine ⟨(rule_0 K_h_0), ?_⟩
  refine ⟨fun c1 => ?_, fun c1 => ?_⟩
  · have t2 : 400 ≤ fI h a 4 := ((Jle (by decide) (rg_toInt _)).mp c1)
    replace w := w.1 t2
    exact w
  · have t2 : ¬ 400 ≤ fI h a 4 := (fun e => c1 ((Jle (by decide) (rg_toInt _)).mpr e))
    replace w := w.2 t2
    refine ⟨(rule_0 K_h_0), _, (rule_5 K_h_0), ?_⟩
    refine ⟨(rule_0 K_h_0), ?_⟩
    obtain ⟨k4, w⟩ := w
    refine ⟨congrArg Prod.fst (rule_1 K_h_0), ixs (rule_1 K_h_0) k4 (by decide), ?_⟩
    exact w
-- OutwardDoors$Rule.add(II)V at 24
set_option maxRecDepth 20000 in
set_option maxHeartbeats 4000000 in
theorem r9_24 {X : Cst} {d : Nat} {a : Nat} {x1 : Int} {x2 : Int} {h : AH} {Q : Post} (C_h : Lay h) (K_h_0 : RuleAt h a)
  (w : Q none (wF h a 4 ((fI h a 4) + 1))) :
    Ex X PG (d + 1) 9 24 [some (.ref a), some (.int (J x1)), some (.int (J x2))] [] h Q := by
  refine wpx_ok (cut := [24]) 7 d 9 24 _ _ _ _ ?_
  show hs h a = (0, 4) ∧ hs h a = (0, 4) ∧ Q none (wG h a 4 ((hF h a 4) + (J 1)))
  try simp only [aI_wAL, fI_wAL, aL_wA, aL_wF, aI_wA_ne, aI_wF_ne, fI_wA_ne, fI_wF_ne, fI_wF_nk, aL_wAL_ne, J_sameA, J_sameF, aL_same, Nat.add_left_cancel_iff, Nat.add_eq_left, Nat.left_eq_add, not_false_eq_true, Nat.reduceEqDiff, Nat.reduceAdd, J_add, J_sub, J_mul, J_neg, J_and, J_or, J_xor, J_shl, J_shr, J_div, J_i2b, J_i2l, J_l2i, J_lcm, J_max, J_min, J_nab, J_nao, rdA, rdF, rdL, wA_fold, wF_fold, wL_fold, wC_fold]
  refine ⟨(rule_0 K_h_0), ?_⟩
  refine ⟨(rule_0 K_h_0), ?_⟩
  exact w
theorem m9 {X : Cst} {d ru : Nat} {o a : Int} {c : Cd} {h : AH} {Q : Post} (C : Lay h) (K : RuleAt h ru) (hd : 1 ≤ d) (G : CoC h ru c) (hc : c.length < 400) (ho : 0 ≤ o ∧ o < 15) (ha : 0 ≤ a ∧ a < 100000) (k : ∀ h', Fr (TAd ru) h h' → CoC h' ru (c ++ [(o, a)]) → Q none h') : Ex X PG d 9 0 [some (.ref ru), some (.int (J (cm o))), some (.int (J a))] [] h Q := by
  obtain ⟨d, rfl⟩ : ∃ e, d = e + 1 := ⟨d - 1, by omega⟩
  have cb := cm_b ho
  refine r9_0 C K ?_
  rw [G.1, or16 ha (by omega)]
  refine ⟨fun z => absurd z (by omega), fun _ => ⟨by omega, r9_24 (Lay_SH SH.rf.wA C) (RuleAt_SH SH.rf.wA K) ?_⟩⟩
  rw [fI_wA_ne (by omega), G.1]
  refine k _ ((Fr.rf.wA (Or.inr rfl)).wF (Or.inl ⟨rfl, rfl⟩)) ⟨?_, fun i i0 i1 => ?_⟩
  · rw [fI_wF_eq (by omega), len_ap]
  · rw [len_ap] at i1
    rw [aI_wF_ne (by omega), aI_wA (by omega)]
    by_cases q : i = c.length
    · rw [q, uu_eq, cX_eq]
    · rw [uu_ne (by omega) (by omega) q, cX_lt (by omega)]
      exact G.2 i i0 (by omega)
theorem m9f {X : Cst} {d ru : Nat} {o a : Int} {h : AH} {Q : Post} (C : Lay h) (K : RuleAt h ru) (hd : 1 ≤ d) (G : 0 ≤ fI h ru 4 ∧ fI h ru 4 ≤ 400) (k : ∀ h', Fr (TAd ru) h h' → (0 ≤ fI h' ru 4 ∧ fI h' ru 4 ≤ 400) → Q none h') : Ex X PG d 9 0 [some (.ref ru), some (.int (J o)), some (.int (J a))] [] h Q := by
  obtain ⟨d, rfl⟩ : ∃ e, d = e + 1 := ⟨d - 1, by omega⟩
  refine r9_0 C K ⟨fun _ => k h Fr.rf G, fun _ => ⟨by omega, r9_24 (Lay_SH SH.rf.wA C) (RuleAt_SH SH.rf.wA K) ?_⟩⟩
  rw [fI_wA_ne (by omega)]
  refine k _ ((Fr.rf.wA (Or.inr rfl)).wF (Or.inl ⟨rfl, rfl⟩)) ?_
  rw [fI_wF_eq (by omega)]
  omega
/-- the class's reader of rules at the token j -/
def CC (h : AH) (tp : Int → Int) (L j p : Int) (c : Cd) (ru : Nat) : Prop := TkC h tp L j 0 ∧ fI h 46 2 = p ∧ CoC h ru c
/-- the same with a fault -/
def CFm (h : AH) (tp : Int → Int) (L f : Int) (ru : Nat) : Prop := (∃ j : Int, TkC h tp L j f) ∧ 0 ≤ fI h ru 4 ∧ fI h ru 4 ≤ 400
def TUr (ru c k : Nat) : Prop := TTf c k ∨ (c = 46 ∧ k = 2) ∨ TAd ru c k
theorem TTk_u {ru c k : Nat} (z : TTk c k) : TUr ru c k := Or.inl (TTk_f z)
theorem TAd_u {ru c k : Nat} (z : TAd ru c k) : TUr ru c k := Or.inr (Or.inr z)
def CQu (h : AH) (tp : Int → Int) (L : Int) (ru : Nat) (r : RR) (Q : Post) : Prop := (r.1 = 0 → ∀ h', Fr (TUr ru) h h' → CC h' tp L r.2.1 r.2.2.1 r.2.2.2 ru → Q none h') ∧ (¬ r.1 = 0 → ∀ h', Fr (TUr ru) h h' → CFm h' tp L r.1 ru → Q none h')
theorem CQu.bad {h h' : AH} {tp : Int → Int} {L f : Int} {ru : Nat} {Q : Post} (k : CQu h tp L ru (flR f) Q) (nf : ¬ f = 0) (F : Fr (TUr ru) h h') (e : CFm h' tp L f ru) : Q none h' := k.2 nf h' F e
theorem CC.tk {h h' : AH} {tp : Int → Int} {L j j' p : Int} {c : Cd} {ru : Nat} (R : CC h tp L j p c ru) (hr : 16 ≤ ru) (F : Fr TTk h h') (T : TkC h' tp L j' 0) : CC h' tp L j' p c ru :=
  ⟨T, by rw [F.f 46 2 (by unfold TTk; omega)]; exact R.2.1, R.2.2.fr F (fun a k z => by unfold TTk at z; unfold TAd; omega)⟩
theorem CC.ad {h h' : AH} {tp : Int → Int} {L j p : Int} {c c' : Cd} {ru : Nat} (R : CC h tp L j p c ru) (hr : 16 ≤ ru ∧ ru + 4 < 46) (F : Fr (TAd ru) h h') (G : CoC h' ru c') : CC h' tp L j p c' ru :=
  ⟨R.1.fr F (by unfold TAd; omega) (by unfold TAd; omega), by rw [F.f 46 2 (by unfold TAd; omega)]; exact R.2.1, G⟩
theorem CFm.ad {h h' : AH} {tp : Int → Int} {L f : Int} {ru : Nat} (R : CFm h tp L f ru) (hr : 16 ≤ ru ∧ ru + 4 < 46) (F : Fr (TAd ru) h h') (G : 0 ≤ fI h' ru 4 ∧ fI h' ru 4 ≤ 400) : CFm h' tp L f ru := by
  obtain ⟨⟨j, T⟩, _⟩ := R
  exact ⟨⟨j, T.fr F (by unfold TAd; omega) (by unfold TAd; omega)⟩, G⟩
/-- a fault is set -/
theorem CC.fl {h : AH} {tp : Int → Int} {L j p q : Int} {c : Cd} {ru : Nat} (R : CC h tp L j p c ru) (hr : 16 ≤ ru) (hc : c.length ≤ 400) (hq : 0 ≤ q ∧ q < 8) : CFm (wF h 1 6 (1 + 8 * j + q)) tp L (1 + 8 * j + q) ru := by
  have tj := R.1.2.2.1
  have tL := R.1.2.1
  refine ⟨⟨j, R.1.fa (by omega)⟩, ?_⟩
  rw [fI_wF_ne (by omega), R.2.2.1]
  omega
theorem tk_mk {tp : Int → Int} {L j c : Int} (nd : ¬ dgP c) (nl : ¬ leP c) (n60 : ¬ c = 60) (n62 : ¬ c = 62) (hc : c < 256) : (tkK tp L j = 3 ∧ tkV tp L j = c) ↔ mrk tp L j c := by
  unfold tkK tkV mrk
  by_cases l : L ≤ j
  · rw [pI_pos l]
    exact ⟨fun z => by omega, fun z => by omega⟩
  rw [pI_neg l, pI_neg l]
  constructor
  · intro z
    refine ⟨by omega, ?_⟩
    by_cases c2 : dgP (tp j)
    · rw [pI_pos c2] at z; omega
    rw [pI_neg c2, pI_neg c2] at z
    by_cases c3 : leP (tp j)
    · rw [pI_pos c3] at z; omega
    rw [pI_neg c3, pI_neg c3] at z
    by_cases c4 : wdn tp L j
    · rw [pI_pos c4] at z
      by_cases c5 : tp j = 60
      · rw [pI_pos c5] at z; omega
      · rw [pI_neg c5] at z; omega
    · rw [pI_neg c4] at z; exact z.2
  · intro z
    rw [z.2, pI_neg nd, pI_neg nd, pI_neg nl, pI_neg nl, pI_neg (by unfold wdn; omega)]
    exact ⟨rfl, rfl⟩
theorem tk_sg {tp : Int → Int} {L j c : Int} (hb : j < L → tp j < 128) (hc : c = 60 ∨ c = 62) : ((tkK tp L j = 3 ∧ tkV tp L j = c) ↔ mrk tp L j c ∧ ¬ wdn tp L j) ∧ ((tkK tp L j = 3 ∧ tkV tp L j = (if c = 60 then 256 else 257)) → mrk tp L j c ∧ wdn tp L j) ∧ (mrk tp L j c ∧ wdn tp L j → (tkK tp L j = 3 ∧ tkV tp L j = (if c = 60 then 256 else 257))) := by
  unfold tkK tkV mrk
  by_cases l : L ≤ j
  · rw [pI_pos l]
    exact ⟨⟨fun z => by omega, fun z => by omega⟩, fun z => by omega, fun z => by omega⟩
  rw [pI_neg l, pI_neg l]
  by_cases c2 : dgP (tp j)
  · rw [pI_pos c2]
    unfold dgP at c2
    exact ⟨⟨fun z => by omega, fun z => by omega⟩, fun z => by omega, fun z => by omega⟩
  rw [pI_neg c2, pI_neg c2]
  by_cases c3 : leP (tp j)
  · rw [pI_pos c3]
    unfold leP at c3
    exact ⟨⟨fun z => by omega, fun z => by omega⟩, fun z => by omega, fun z => by omega⟩
  rw [pI_neg c3, pI_neg c3]
  by_cases c4 : wdn tp L j
  · rw [pI_pos c4]
    have w := c4.1
    by_cases c5 : tp j = 60
    · rw [pI_pos c5]
      rcases hc with rfl | rfl
      · rw [if_pos rfl]; exact ⟨⟨fun z => by omega, fun z => absurd c4 z.2⟩, fun z => ⟨⟨by omega, c5⟩, c4⟩, fun z => ⟨rfl, rfl⟩⟩
      · rw [if_neg (by decide)]; exact ⟨⟨fun z => by omega, fun z => absurd c4 z.2⟩, fun z => by omega, fun z => by have := z.1.2; omega⟩
    · rw [pI_neg c5]
      rcases hc with rfl | rfl
      · rw [if_pos rfl]; exact ⟨⟨fun z => by omega, fun z => absurd c4 z.2⟩, fun z => by omega, fun z => absurd z.1.2 c5⟩
      · rw [if_neg (by decide)]; exact ⟨⟨fun z => by omega, fun z => absurd c4 z.2⟩, fun z => ⟨⟨by omega, by omega⟩, c4⟩, fun z => ⟨rfl, rfl⟩⟩
  · rw [pI_neg c4]
    refine ⟨⟨fun z => ⟨⟨by omega, z.2⟩, c4⟩, fun z => ⟨rfl, z.1.2⟩⟩, fun z => ?_, fun z => absurd z.2 c4⟩
    exfalso
    have := hb (by omega)
    have z2 := z.2
    rcases hc with rfl | rfl
    · rw [if_pos rfl] at z2; omega
    · rw [if_neg (by decide)] at z2; omega
def cmz (o : Int) : Int := if o = 0 then 0 else cm o
-- OutwardDoors$RuleReader.operationAmong(IIII)I at 0
set_option maxRecDepth 20000 in
set_option maxHeartbeats 4000000 in
theorem r65_0 {X : Cst} {d : Nat} {x1 : Int} {x2 : Int} {x3 : Int} {x4 : Int} {ru : Nat} {h : AH} {Q : Post} (C_h : Lay h) (K_h_0 : RuleAt h ru) (P_h : hR h 46 1 = some ru) (hd : 1 ≤ d)
  (w : (-2147483648 ≤ x1 ∧ x1 < 2147483648) ∧ ((¬ (fI h 1 2 = 3 ∧ fI h 1 5 = x1) → (-2147483648 ≤ x3 ∧ x3 < 2147483648) ∧ ((¬ (fI h 1 2 = 3 ∧ fI h 1 5 = x3) → Q (some (.int (J 0))) h) ∧ ((fI h 1 2 = 3 ∧ fI h 1 5 = x3) → Q (some (.int (J x4))) h))) ∧ ((fI h 1 2 = 3 ∧ fI h 1 5 = x1) → Q (some (.int (J x2))) h))) :
    Ex X PG (d + 1) 65 0 [some (.ref 46), some (.int (J x1)), some (.int (J x2)), some (.int (J x3)), some (.int (J x4))] [] h Q := by
  refine wpx_ok (cut := []) 13 d 65 0 _ _ _ _ ?_
  show hs h 46 = (0, 5) ∧ ∃ q1, hR h 46 0 = some q1 ∧ hs h q1 = (0, 8) ∧ Ex X PG d 45 0 [some (.ref q1), some (.int (J x1))] [] h (fun v2 h3 => ∃ r4, v2 = some (.int r4) ∧ ((r4 = (J 0) → hs h3 46 = (0, 5) ∧ ∃ q8, hR h3 46 0 = some q8 ∧ hs h3 q8 = (0, 8) ∧ Ex X PG d 45 0 [some (.ref q8), some (.int (J x3))] [] h3 (fun v9 h10 => ∃ r11, v9 = some (.int r11) ∧ ((r11 = (J 0) → Q (some (.int (J 0))) h10) ∧ (¬ (r11 = (J 0)) → Q (some (.int (J x4))) h10)))) ∧ (¬ (r4 = (J 0)) → Q (some (.int (J x2))) h3)))
  try simp only [aI_wAL, fI_wAL, aL_wA, aL_wF, aI_wA_ne, aI_wF_ne, fI_wA_ne, fI_wF_ne, fI_wF_nk, aL_wAL_ne, J_sameA, J_sameF, aL_same, Nat.add_left_cancel_iff, Nat.add_eq_left, Nat.left_eq_add, not_false_eq_true, Nat.reduceEqDiff, Nat.reduceAdd, J_add, J_sub, J_mul, J_neg, J_and, J_or, J_xor, J_shl, J_shr, J_div, J_i2b, J_i2l, J_l2i, J_lcm, J_max, J_min, J_nab, J_nao, rdA, rdF, rdL, wA_fold, wF_fold, wL_fold, wC_fold]
  refine ⟨(ls46 C_h), _, (lr46_0 C_h), ?_⟩
  refine ⟨(ls1 C_h), ?_⟩
  obtain ⟨k5, w⟩ := w
  refine m45 (h := h) (q := x1) C_h (by omega) k5 ?_
  refine ⟨_, rfl, ?_⟩
  try simp only [aI_wAL, fI_wAL, aL_wA, aL_wF, aI_wA_ne, aI_wF_ne, fI_wA_ne, fI_wF_ne, fI_wF_nk, aL_wAL_ne, J_sameA, J_sameF, aL_same, Nat.add_left_cancel_iff, Nat.add_eq_left, Nat.left_eq_add, not_false_eq_true, Nat.reduceEqDiff, Nat.reduceAdd, J_add, J_sub, J_mul, J_neg, J_and, J_or, J_xor, J_shl, J_shr, J_div, J_i2b, J_i2l, J_l2i, J_lcm, J_max, J_min, J_nab, J_nao, rdA, rdF, rdL, wA_fold, wF_fold, wL_fold, wC_fold]
  refine ⟨fun c6 => ?_, fun c6 => ?_⟩
  · have t7 : ¬ (fI h 1 2 = 3 ∧ fI h 1 5 = x1) := ((bI0 _).mp c6)
    replace w := w.1 t7
    refine ⟨(ls46 C_h), _, (lr46_0 C_h), ?_⟩
    refine ⟨(ls1 C_h), ?_⟩
    obtain ⟨k12, w⟩ := w
    refine m45 (h := h) (q := x3) C_h (by omega) k12 ?_
    refine ⟨_, rfl, ?_⟩
    try simp only [aI_wAL, fI_wAL, aL_wA, aL_wF, aI_wA_ne, aI_wF_ne, fI_wA_ne, fI_wF_ne, fI_wF_nk, aL_wAL_ne, J_sameA, J_sameF, aL_same, Nat.add_left_cancel_iff, Nat.add_eq_left, Nat.left_eq_add, not_false_eq_true, Nat.reduceEqDiff, Nat.reduceAdd, J_add, J_sub, J_mul, J_neg, J_and, J_or, J_xor, J_shl, J_shr, J_div, J_i2b, J_i2l, J_l2i, J_lcm, J_max, J_min, J_nab, J_nao, rdA, rdF, rdL, wA_fold, wF_fold, wL_fold, wC_fold]
    refine ⟨fun c13 => ?_, fun c13 => ?_⟩
    · have t14 : ¬ (fI h 1 2 = 3 ∧ fI h 1 5 = x3) := ((bI0 _).mp c13)
      replace w := w.1 t14
      exact w
    · have t14 : (fI h 1 2 = 3 ∧ fI h 1 5 = x3) := (Classical.byContradiction fun n => c13 ((bI0 _).mpr n))
      replace w := w.2 t14
      exact w
  · have t7 : (fI h 1 2 = 3 ∧ fI h 1 5 = x1) := (Classical.byContradiction fun n => c6 ((bI0 _).mpr n))
    replace w := w.2 t7
    exact w
theorem m65 {X : Cst} {d ru : Nat} {a b x y L j f : Int} {tp : Int → Int} {h : AH} {Q : Post} (C : Lay h) (K : RuleAt h ru) (P : hR h 46 1 = some ru) (hd : 2 ≤ d) (T : TkC h tp L j f) (ha : -2147483648 ≤ a ∧ a < 2147483648) (hb : -2147483648 ≤ b ∧ b < 2147483648)
    (k1 : (tkK tp L j = 3 ∧ tkV tp L j = a) → Q (some (.int (J x))) h) (k2 : ¬ (tkK tp L j = 3 ∧ tkV tp L j = a) → (tkK tp L j = 3 ∧ tkV tp L j = b) → Q (some (.int (J y))) h) (k0 : ¬ (tkK tp L j = 3 ∧ tkV tp L j = a) → ¬ (tkK tp L j = 3 ∧ tkV tp L j = b) → Q (some (.int (J 0))) h) : Ex X PG d 65 0 [some (.ref 46), some (.int (J a)), some (.int (J x)), some (.int (J b)), some (.int (J y))] [] h Q := by
  obtain ⟨d, rfl⟩ : ∃ e, d = e + 1 := ⟨d - 1, by omega⟩
  refine r65_0 C K P (by omega) ?_
  rw [T.2.2.2.2.1, T.2.2.2.2.2.2.1]
  exact ⟨ha, fun n1 => ⟨hb, fun n2 => k0 n1 n2, fun y2 => k2 n1 y2⟩, k1⟩
-- OutwardDoors$RuleReader.timesOperation()I at 0
set_option maxRecDepth 20000 in
set_option maxHeartbeats 4000000 in
theorem r64_0 {X : Cst} {d : Nat} {ru : Nat} {h : AH} {Q : Post} (C_h : Lay h) (K_h_0 : RuleAt h ru) (P_h : hR h 46 1 = some ru)
  (w : Ex X PG d 65 0 [some (.ref 46), some (.int (J 42)), some (.int (J 5)), some (.int (J 47)), some (.int (J 6))] [] h (fun v1 h2 => ∃ r3 : Int, (-2147483648 ≤ r3 ∧ r3 < 2147483648) ∧ v1 = some (.int (J r3)) ∧ SH h h2 ∧ ((r3 = 0 → Ex X PG d 65 0 [some (.ref 46), some (.int (J 37)), some (.int (J 7)), some (.int (J 37)), some (.int (J 7))] [] h2 (fun v6 h7 => ∃ r8 : Int, (-2147483648 ≤ r8 ∧ r8 < 2147483648) ∧ v6 = some (.int (J r8)) ∧ SH h2 h7 ∧ Q (some (.int (J r8))) h7)) ∧ (¬ r3 = 0 → Q (some (.int (J r3))) h2)))) :
    Ex X PG (d + 1) 64 0 [some (.ref 46), none] [] h Q := by
  refine wpx_ok (cut := []) 16 d 64 0 _ _ _ _ ?_
  show hs h 46 = (0, 5) ∧ Ex X PG d 65 0 [some (.ref 46), some (.int (J 42)), some (.int (J 5)), some (.int (J 47)), some (.int (J 6))] [] h (fun v1 h2 => ∃ r3, v1 = some (.int r3) ∧ ((r3 = (J 0) → hs h2 46 = (0, 5) ∧ Ex X PG d 65 0 [some (.ref 46), some (.int (J 37)), some (.int (J 7)), some (.int (J 37)), some (.int (J 7))] [] h2 (fun v6 h7 => ∃ r8, v6 = some (.int r8) ∧ Q (some (.int r8)) h7)) ∧ (¬ (r3 = (J 0)) → Q (some (.int r3)) h2)))
  try simp only [aI_wAL, fI_wAL, aL_wA, aL_wF, aI_wA_ne, aI_wF_ne, fI_wA_ne, fI_wF_ne, fI_wF_nk, aL_wAL_ne, J_sameA, J_sameF, aL_same, Nat.add_left_cancel_iff, Nat.add_eq_left, Nat.left_eq_add, not_false_eq_true, Nat.reduceEqDiff, Nat.reduceAdd, J_add, J_sub, J_mul, J_neg, J_and, J_or, J_xor, J_shl, J_shr, J_div, J_i2b, J_i2l, J_l2i, J_lcm, J_max, J_min, J_nab, J_nao, rdA, rdF, rdL, wA_fold, wF_fold, wL_fold, wC_fold]
  refine ⟨(ls46 C_h), ?_⟩
  refine Ex.mono w (Nat.le_refl _) ?_
  rintro v1 h2 ⟨r3, gr3, rfl, s10, w⟩
  refine ⟨_, rfl, ?_⟩
  have C_h2 := Lay_SH s10 C_h
  have K_h2_0 := RuleAt_SH s10 K_h_0
  have P_h2 := (congrFun (congrFun s10.2 46) 1).trans P_h
  try simp only [aI_wAL, fI_wAL, aL_wA, aL_wF, aI_wA_ne, aI_wF_ne, fI_wA_ne, fI_wF_ne, fI_wF_nk, aL_wAL_ne, J_sameA, J_sameF, aL_same, Nat.add_left_cancel_iff, Nat.add_eq_left, Nat.left_eq_add, not_false_eq_true, Nat.reduceEqDiff, Nat.reduceAdd, J_add, J_sub, J_mul, J_neg, J_and, J_or, J_xor, J_shl, J_shr, J_div, J_i2b, J_i2l, J_l2i, J_lcm, J_max, J_min, J_nab, J_nao, rdA, rdF, rdL, wA_fold, wF_fold, wL_fold, wC_fold]
  refine ⟨fun c4 => ?_, fun c4 => ?_⟩
  · have t5 : r3 = 0 := ((Jeq gr3 (by decide)).mp c4)
    replace w := w.1 t5
    refine ⟨(ls46 C_h2), ?_⟩
    refine Ex.mono w (Nat.le_refl _) ?_
    rintro v6 h7 ⟨r8, gr8, rfl, s9, w⟩
    refine ⟨_, rfl, ?_⟩
    have C_h7 := Lay_SH s9 C_h2
    have K_h7_0 := RuleAt_SH s9 K_h2_0
    have P_h7 := (congrFun (congrFun s9.2 46) 1).trans P_h2
    try simp only [aI_wAL, fI_wAL, aL_wA, aL_wF, aI_wA_ne, aI_wF_ne, fI_wA_ne, fI_wF_ne, fI_wF_nk, aL_wAL_ne, J_sameA, J_sameF, aL_same, Nat.add_left_cancel_iff, Nat.add_eq_left, Nat.left_eq_add, not_false_eq_true, Nat.reduceEqDiff, Nat.reduceAdd, J_add, J_sub, J_mul, J_neg, J_and, J_or, J_xor, J_shl, J_shr, J_div, J_i2b, J_i2l, J_l2i, J_lcm, J_max, J_min, J_nab, J_nao, rdA, rdF, rdL, wA_fold, wF_fold, wL_fold, wC_fold]
    exact w
  · have t5 : ¬ r3 = 0 := (fun e => c4 ((Jeq gr3 (by decide)).mpr e))
    replace w := w.2 t5
    exact w
theorem m64 {X : Cst} {d ru : Nat} {L j f : Int} {tp : Int → Int} {h : AH} {Q : Post} (C : Lay h) (K : RuleAt h ru) (P : hR h 46 1 = some ru) (hd : 3 ≤ d) (T : TkC h tp L j f) (k : Q (some (.int (J (cmz (tmO tp L j))))) h) : Ex X PG d 64 0 [some (.ref 46), none] [] h Q := by
  obtain ⟨d, rfl⟩ : ∃ e, d = e + 1 := ⟨d - 1, by omega⟩
  have i42 := tk_mk (tp := tp) (L := L) (j := j) (c := 42) (by unfold dgP; omega) (by unfold leP; omega) (by omega) (by omega) (by omega)
  have i47 := tk_mk (tp := tp) (L := L) (j := j) (c := 47) (by unfold dgP; omega) (by unfold leP; omega) (by omega) (by omega) (by omega)
  have i37 := tk_mk (tp := tp) (L := L) (j := j) (c := 37) (by unfold dgP; omega) (by unfold leP; omega) (by omega) (by omega) (by omega)
  unfold tmO at k
  refine r64_0 C K P ?_
  refine m65 C K P (by omega) T (by omega) (by omega) (fun a => ⟨_, by omega, rfl, SH.rf, fun z => absurd z (by decide), fun _ => ?_⟩) (fun n a => ⟨_, by omega, rfl, SH.rf, fun z => absurd z (by decide), fun _ => ?_⟩) (fun n n2 => ⟨_, by omega, rfl, SH.rf, fun _ => ?_, fun z => absurd rfl z⟩)
  · rw [pI_pos (i42.mp a)] at k; exact k
  · rw [pI_neg (fun z => n (i42.mpr z)), pI_pos (i47.mp a)] at k; exact k
  · rw [pI_neg (fun z => n (i42.mpr z)), pI_neg (fun z => n2 (i47.mpr z))] at k
    refine m65 C K P (by omega) T (by omega) (by omega) (fun a => ⟨_, by omega, rfl, SH.rf, ?_⟩) (fun n a => absurd a n) (fun n n2 => ⟨_, by omega, rfl, SH.rf, ?_⟩)
    · rw [pI_pos (i37.mp a)] at k; exact k
    · rw [pI_neg (fun z => n (i37.mpr z))] at k; exact k
/-- the + or - at j, in the class's own numbers -/
theorem m65s {X : Cst} {d ru : Nat} {L j f : Int} {tp : Int → Int} {h : AH} {Q : Post} (C : Lay h) (K : RuleAt h ru) (P : hR h 46 1 = some ru) (hd : 2 ≤ d) (T : TkC h tp L j f) (k : Q (some (.int (J (cmz (smO tp L j))))) h) : Ex X PG d 65 0 [some (.ref 46), some (.int (J 43)), some (.int (J 3)), some (.int (J 45)), some (.int (J 4))] [] h Q := by
  have i43 := tk_mk (tp := tp) (L := L) (j := j) (c := 43) (by unfold dgP; omega) (by unfold leP; omega) (by omega) (by omega) (by omega)
  have i45 := tk_mk (tp := tp) (L := L) (j := j) (c := 45) (by unfold dgP; omega) (by unfold leP; omega) (by omega) (by omega) (by omega)
  unfold smO at k
  refine m65 C K P hd T (by omega) (by omega) (fun a => ?_) (fun n a => ?_) (fun n n2 => ?_)
  · rw [pI_pos (i43.mp a)] at k; exact k
  · rw [pI_neg (fun z => n (i43.mpr z)), pI_pos (i45.mp a)] at k; exact k
  · rw [pI_neg (fun z => n (i43.mpr z)), pI_neg (fun z => n2 (i45.mpr z))] at k; exact k
-- OutwardDoors$RuleReader.signOperation()I at 0
set_option maxRecDepth 20000 in
set_option maxHeartbeats 4000000 in
theorem r71_0 {X : Cst} {d : Nat} {ru : Nat} {h : AH} {Q : Post} (C_h : Lay h) (K_h_0 : RuleAt h ru) (P_h : hR h 46 1 = some ru)
  (w : Ex X PG d 65 0 [some (.ref 46), some (.int (J 60)), some (.int (J 8)), some (.int (J 62)), some (.int (J 12))] [] h (fun v1 h2 => ∃ r3 : Int, (-2147483648 ≤ r3 ∧ r3 < 2147483648) ∧ v1 = some (.int (J r3)) ∧ SH h h2 ∧ ((¬ r3 = 0 → Q (some (.int (J r3))) h2) ∧ (r3 = 0 → Ex X PG d 65 0 [some (.ref 46), some (.int (J 256)), some (.int (J 9)), some (.int (J 257)), some (.int (J 11))] [] h2 (fun v12 h13 => ∃ r14 : Int, (-2147483648 ≤ r14 ∧ r14 < 2147483648) ∧ v12 = some (.int (J r14)) ∧ SH h2 h13 ∧ ((r14 = 0 → Ex X PG d 65 0 [some (.ref 46), some (.int (J 61)), some (.int (J 10)), some (.int (J 61)), some (.int (J 10))] [] h13 (fun v17 h18 => ∃ r19 : Int, (-2147483648 ≤ r19 ∧ r19 < 2147483648) ∧ v17 = some (.int (J r19)) ∧ SH h13 h18 ∧ Q (some (.int (J r19))) h18)) ∧ (¬ r14 = 0 → Q (some (.int (J r14))) h13))))))) :
    Ex X PG (d + 1) 71 0 [some (.ref 46), none] [] h Q := by
  refine wpx_ok (cut := []) 25 d 71 0 _ _ _ _ ?_
  show hs h 46 = (0, 5) ∧ Ex X PG d 65 0 [some (.ref 46), some (.int (J 60)), some (.int (J 8)), some (.int (J 62)), some (.int (J 12))] [] h (fun v1 h2 => ∃ r3, v1 = some (.int r3) ∧ ((¬ r3 = (J 0) → ((r3 = (J 0) → hs h2 46 = (0, 5) ∧ Ex X PG d 65 0 [some (.ref 46), some (.int (J 61)), some (.int (J 10)), some (.int (J 61)), some (.int (J 10))] [] h2 (fun v8 h9 => ∃ r10, v8 = some (.int r10) ∧ Q (some (.int r10)) h9)) ∧ (¬ (r3 = (J 0)) → Q (some (.int r3)) h2))) ∧ (¬ (¬ r3 = (J 0)) → hs h2 46 = (0, 5) ∧ Ex X PG d 65 0 [some (.ref 46), some (.int (J 256)), some (.int (J 9)), some (.int (J 257)), some (.int (J 11))] [] h2 (fun v12 h13 => ∃ r14, v12 = some (.int r14) ∧ ((r14 = (J 0) → hs h13 46 = (0, 5) ∧ Ex X PG d 65 0 [some (.ref 46), some (.int (J 61)), some (.int (J 10)), some (.int (J 61)), some (.int (J 10))] [] h13 (fun v17 h18 => ∃ r19, v17 = some (.int r19) ∧ Q (some (.int r19)) h18)) ∧ (¬ (r14 = (J 0)) → Q (some (.int r14)) h13))))))
  try simp only [aI_wAL, fI_wAL, aL_wA, aL_wF, aI_wA_ne, aI_wF_ne, fI_wA_ne, fI_wF_ne, fI_wF_nk, aL_wAL_ne, J_sameA, J_sameF, aL_same, Nat.add_left_cancel_iff, Nat.add_eq_left, Nat.left_eq_add, not_false_eq_true, Nat.reduceEqDiff, Nat.reduceAdd, J_add, J_sub, J_mul, J_neg, J_and, J_or, J_xor, J_shl, J_shr, J_div, J_i2b, J_i2l, J_l2i, J_lcm, J_max, J_min, J_nab, J_nao, rdA, rdF, rdL, wA_fold, wF_fold, wL_fold, wC_fold]
  refine ⟨(ls46 C_h), ?_⟩
  refine Ex.mono w (Nat.le_refl _) ?_
  rintro v1 h2 ⟨r3, gr3, rfl, s22, w⟩
  refine ⟨_, rfl, ?_⟩
  have C_h2 := Lay_SH s22 C_h
  have K_h2_0 := RuleAt_SH s22 K_h_0
  have P_h2 := (congrFun (congrFun s22.2 46) 1).trans P_h
  try simp only [aI_wAL, fI_wAL, aL_wA, aL_wF, aI_wA_ne, aI_wF_ne, fI_wA_ne, fI_wF_ne, fI_wF_nk, aL_wAL_ne, J_sameA, J_sameF, aL_same, Nat.add_left_cancel_iff, Nat.add_eq_left, Nat.left_eq_add, not_false_eq_true, Nat.reduceEqDiff, Nat.reduceAdd, J_add, J_sub, J_mul, J_neg, J_and, J_or, J_xor, J_shl, J_shr, J_div, J_i2b, J_i2l, J_l2i, J_lcm, J_max, J_min, J_nab, J_nao, rdA, rdF, rdL, wA_fold, wF_fold, wL_fold, wC_fold]
  refine ⟨fun c4 => ?_, fun c4 => ?_⟩
  · have t5 : ¬ r3 = 0 := (fun e => c4 ((Jeq gr3 (by decide)).mpr e))
    replace w := w.1 t5
    refine ⟨fun c6 => absurd c6 (fun e => t5 ((Jeq gr3 (by decide)).mp e)), fun _ => ?_⟩
    exact w
  · have t5 : r3 = 0 := ((Jeq gr3 (by decide)).mp (Classical.byContradiction c4))
    replace w := w.2 t5
    refine ⟨(ls46 C_h2), ?_⟩
    refine Ex.mono w (Nat.le_refl _) ?_
    rintro v12 h13 ⟨r14, gr14, rfl, s21, w⟩
    refine ⟨_, rfl, ?_⟩
    have C_h13 := Lay_SH s21 C_h2
    have K_h13_0 := RuleAt_SH s21 K_h2_0
    have P_h13 := (congrFun (congrFun s21.2 46) 1).trans P_h2
    try simp only [aI_wAL, fI_wAL, aL_wA, aL_wF, aI_wA_ne, aI_wF_ne, fI_wA_ne, fI_wF_ne, fI_wF_nk, aL_wAL_ne, J_sameA, J_sameF, aL_same, Nat.add_left_cancel_iff, Nat.add_eq_left, Nat.left_eq_add, not_false_eq_true, Nat.reduceEqDiff, Nat.reduceAdd, J_add, J_sub, J_mul, J_neg, J_and, J_or, J_xor, J_shl, J_shr, J_div, J_i2b, J_i2l, J_l2i, J_lcm, J_max, J_min, J_nab, J_nao, rdA, rdF, rdL, wA_fold, wF_fold, wL_fold, wC_fold]
    refine ⟨fun c15 => ?_, fun c15 => ?_⟩
    · have t16 : r14 = 0 := ((Jeq gr14 (by decide)).mp c15)
      replace w := w.1 t16
      refine ⟨(ls46 C_h13), ?_⟩
      refine Ex.mono w (Nat.le_refl _) ?_
      rintro v17 h18 ⟨r19, gr19, rfl, s20, w⟩
      refine ⟨_, rfl, ?_⟩
      have C_h18 := Lay_SH s20 C_h13
      have K_h18_0 := RuleAt_SH s20 K_h13_0
      have P_h18 := (congrFun (congrFun s20.2 46) 1).trans P_h13
      try simp only [aI_wAL, fI_wAL, aL_wA, aL_wF, aI_wA_ne, aI_wF_ne, fI_wA_ne, fI_wF_ne, fI_wF_nk, aL_wAL_ne, J_sameA, J_sameF, aL_same, Nat.add_left_cancel_iff, Nat.add_eq_left, Nat.left_eq_add, not_false_eq_true, Nat.reduceEqDiff, Nat.reduceAdd, J_add, J_sub, J_mul, J_neg, J_and, J_or, J_xor, J_shl, J_shr, J_div, J_i2b, J_i2l, J_l2i, J_lcm, J_max, J_min, J_nab, J_nao, rdA, rdF, rdL, wA_fold, wF_fold, wL_fold, wC_fold]
      exact w
    · have t16 : ¬ r14 = 0 := (fun e => c15 ((Jeq gr14 (by decide)).mpr e))
      replace w := w.2 t16
      exact w
theorem m71 {X : Cst} {d ru : Nat} {L j f : Int} {tp : Int → Int} {h : AH} {Q : Post} (C : Lay h) (K : RuleAt h ru) (P : hR h 46 1 = some ru) (hd : 3 ≤ d) (B : BT tp) (T : TkC h tp L j f) (k : Q (some (.int (J (cmz (sgO tp L j))))) h) : Ex X PG d 71 0 [some (.ref 46), none] [] h Q := by
  obtain ⟨d, rfl⟩ : ∃ e, d = e + 1 := ⟨d - 1, by omega⟩
  have tj := T.2.2.1
  have tL := T.2.1
  have hb : j < L → tp j < 128 := fun z => (B j (by omega) (by omega)).2
  have i60 := tk_sg (c := 60) hb (Or.inl rfl)
  have i62 := tk_sg (c := 62) hb (Or.inr rfl)
  have i61 := tk_mk (tp := tp) (L := L) (j := j) (c := 61) (by unfold dgP; omega) (by unfold leP; omega) (by omega) (by omega) (by omega)
  rw [if_pos rfl] at i60
  rw [if_neg (by decide)] at i62
  unfold sgO at k
  refine r71_0 C K P ?_
  refine m65 C K P (by omega) T (by omega) (by omega) (fun a => ⟨_, by omega, rfl, SH.rf, fun _ => ?_, fun z => absurd z (by decide)⟩) (fun n a => ⟨_, by omega, rfl, SH.rf, fun _ => ?_, fun z => absurd z (by decide)⟩) (fun n n2 => ⟨_, by omega, rfl, SH.rf, fun z => absurd rfl z, fun _ => ?_⟩)
  · have q := i60.1.mp a
    rw [pI_pos q.1, pI_neg q.2] at k; exact k
  · have q := i62.1.mp a
    rw [pI_neg (fun z => by have := z.2; have := q.1.2; omega), pI_neg (fun z => by have := z.2; have := q.1.2; omega), pI_pos q.1, pI_neg q.2] at k; exact k
  refine m65 C K P (by omega) T (by omega) (by omega) (fun a => ⟨_, by omega, rfl, SH.rf, fun z => absurd z (by decide), fun _ => ?_⟩) (fun n3 a => ⟨_, by omega, rfl, SH.rf, fun z => absurd z (by decide), fun _ => ?_⟩) (fun n3 n4 => ⟨_, by omega, rfl, SH.rf, fun _ => ?_, fun z => absurd rfl z⟩)
  · have q := i60.2.1 a
    rw [pI_pos q.1, pI_pos q.2] at k; exact k
  · have q := i62.2.1 a
    rw [pI_neg (fun z => by have := z.2; have := q.1.2; omega), pI_neg (fun z => by have := z.2; have := q.1.2; omega), pI_pos q.1, pI_pos q.2] at k; exact k
  have m60 : ¬ mrk tp L j 60 := fun z => by
    by_cases w : wdn tp L j
    · exact n3 (i60.2.2 ⟨z, w⟩)
    · exact n (i60.1.mpr ⟨z, w⟩)
  have m62 : ¬ mrk tp L j 62 := fun z => by
    by_cases w : wdn tp L j
    · exact n4 (i62.2.2 ⟨z, w⟩)
    · exact n2 (i62.1.mpr ⟨z, w⟩)
  rw [pI_neg m60] at k
  refine m65 C K P (by omega) T (by omega) (by omega) (fun a => ⟨_, by omega, rfl, SH.rf, ?_⟩) (fun n a => absurd a n) (fun n n2 => ⟨_, by omega, rfl, SH.rf, ?_⟩)
  · rw [pI_pos (i61.mp a)] at k; exact k
  · rw [pI_neg (fun z => n (i61.mpr z)), pI_neg m62] at k; exact k
-- OutwardDoors$RuleReader.passesOver(I)Z at 0
set_option maxRecDepth 20000 in
set_option maxHeartbeats 4000000 in
theorem r66_0 {X : Cst} {d : Nat} {x1 : Int} {ru : Nat} {h : AH} {Q : Post} (C_h : Lay h) (K_h_0 : RuleAt h ru) (P_h : hR h 46 1 = some ru)
  (w : (-2147483648 ≤ x1 ∧ x1 < 2147483648) ∧ ((x1 = 0 → Q (some (.int (J 0))) h) ∧ (¬ x1 = 0 → ((¬ fI h 1 6 = 0 → Q (some (.int (J 0))) h) ∧ (fI h 1 6 = 0 → Ex X PG d 24 0 [some (.ref 1), none] [] h (fun v16 h17 => v16 = none ∧ SH h h17 ∧ Q (some (.int (J 1))) h17)))))) :
    Ex X PG (d + 1) 66 0 [some (.ref 46), some (.int (J x1)), none] [] h Q := by
  refine wpx_ok (cut := []) 16 d 66 0 _ _ _ _ ?_
  show (((J x1) = (J 0) → (((J 0) = (J 0) → (J 0 = J 0 ∨ J 0 = J 1) ∧ Q (some (.int (J 0))) h) ∧ (¬ ((J 0) = (J 0)) → hs h 46 = (0, 5) ∧ ∃ q4, hR h 46 0 = some q4 ∧ hs h q4 = (0, 8) ∧ Ex X PG d 24 0 [some (.ref q4), none] [] h (fun v5 h6 => v5 = none ∧ (J 0 = J 0 ∨ J 0 = J 1) ∧ Q (some (.int (J 0))) h6)))) ∧ (¬ ((J x1) = (J 0)) → hs h 46 = (0, 5) ∧ ∃ q8, hR h 46 0 = some q8 ∧ hs h q8 = (0, 8) ∧ ((¬ (hF h q8 6) = (J 0) → (((J 0) = (J 0) → (J 0 = J 0 ∨ J 0 = J 1) ∧ Q (some (.int (J 0))) h) ∧ (¬ ((J 0) = (J 0)) → hs h 46 = (0, 5) ∧ ∃ q11, hR h 46 0 = some q11 ∧ hs h q11 = (0, 8) ∧ Ex X PG d 24 0 [some (.ref q11), none] [] h (fun v12 h13 => v12 = none ∧ (J 0 = J 0 ∨ J 0 = J 1) ∧ Q (some (.int (J 0))) h13)))) ∧ (¬ (¬ (hF h q8 6) = (J 0)) → (((J 1) = (J 0) → (J 1 = J 0 ∨ J 1 = J 1) ∧ Q (some (.int (J 1))) h) ∧ (¬ ((J 1) = (J 0)) → hs h 46 = (0, 5) ∧ ∃ q15, hR h 46 0 = some q15 ∧ hs h q15 = (0, 8) ∧ Ex X PG d 24 0 [some (.ref q15), none] [] h (fun v16 h17 => v16 = none ∧ (J 1 = J 0 ∨ J 1 = J 1) ∧ Q (some (.int (J 1))) h17)))))))
  try simp only [aI_wAL, fI_wAL, aL_wA, aL_wF, aI_wA_ne, aI_wF_ne, fI_wA_ne, fI_wF_ne, fI_wF_nk, aL_wAL_ne, J_sameA, J_sameF, aL_same, Nat.add_left_cancel_iff, Nat.add_eq_left, Nat.left_eq_add, not_false_eq_true, Nat.reduceEqDiff, Nat.reduceAdd, J_add, J_sub, J_mul, J_neg, J_and, J_or, J_xor, J_shl, J_shr, J_div, J_i2b, J_i2l, J_l2i, J_lcm, J_max, J_min, J_nab, J_nao, rdA, rdF, rdL, wA_fold, wF_fold, wL_fold, wC_fold]
  obtain ⟨k3, w⟩ := w
  refine ⟨fun c1 => ?_, fun c1 => ?_⟩
  · have t2 : x1 = 0 := ((Jeq k3 (by decide)).mp c1)
    replace w := w.1 t2
    refine ⟨fun _ => ?_, fun c => absurd (by decide) c⟩
    exact ⟨(Or.inl (by trivial)), w⟩
  · have t2 : ¬ x1 = 0 := (fun e => c1 ((Jeq k3 (by decide)).mpr e))
    replace w := w.2 t2
    refine ⟨(ls46 C_h), _, (lr46_0 C_h), ?_⟩
    refine ⟨(ls1 C_h), ?_⟩
    refine ⟨fun c9 => ?_, fun c9 => ?_⟩
    · have t10 : ¬ fI h 1 6 = 0 := (fun e => c9 ((Jeq (rg_toInt _) (by decide)).mpr e))
      replace w := w.1 t10
      refine ⟨fun _ => ?_, fun c => absurd (by decide) c⟩
      exact ⟨(Or.inl (by trivial)), w⟩
    · have t10 : fI h 1 6 = 0 := ((Jeq (rg_toInt _) (by decide)).mp (Classical.byContradiction c9))
      replace w := w.2 t10
      refine ⟨fun c => absurd c (by decide), fun _ => ?_⟩
      refine ⟨(ls46 C_h), _, (lr46_0 C_h), ?_⟩
      refine ⟨(ls1 C_h), ?_⟩
      refine Ex.mono w (Nat.le_refl _) ?_
      rintro v16 h17 ⟨rfl, s18, w⟩
      refine ⟨rfl, ?_⟩
      have C_h17 := Lay_SH s18 C_h
      have K_h17_0 := RuleAt_SH s18 K_h_0
      have P_h17 := (congrFun (congrFun s18.2 46) 1).trans P_h
      try simp only [aI_wAL, fI_wAL, aL_wA, aL_wF, aI_wA_ne, aI_wF_ne, fI_wA_ne, fI_wF_ne, fI_wF_nk, aL_wAL_ne, J_sameA, J_sameF, aL_same, Nat.add_left_cancel_iff, Nat.add_eq_left, Nat.left_eq_add, not_false_eq_true, Nat.reduceEqDiff, Nat.reduceAdd, J_add, J_sub, J_mul, J_neg, J_and, J_or, J_xor, J_shl, J_shr, J_div, J_i2b, J_i2l, J_l2i, J_lcm, J_max, J_min, J_nab, J_nao, rdA, rdF, rdL, wA_fold, wF_fold, wL_fold, wC_fold]
      exact ⟨(Or.inr (by trivial)), w⟩
theorem m66 {X : Cst} {d ru : Nat} {x L j f : Int} {tp : Int → Int} {h : AH} {Q : Post} (C : Lay h) (K : RuleAt h ru) (P : hR h 46 1 = some ru) (hd : 3 ≤ d) (T : TkC h tp L j f) (hx : -2147483648 ≤ x ∧ x < 2147483648) (k0 : x = 0 ∨ ¬ f = 0 → Q (some (.int (J 0))) h) (k1 : ¬ x = 0 → f = 0 → ∀ h', Fr TTk h h' → TkC h' tp L (nx tp L j) 0 → Q (some (.int (J 1))) h') : Ex X PG d 66 0 [some (.ref 46), some (.int (J x)), none] [] h Q := by
  obtain ⟨d, rfl⟩ : ∃ e, d = e + 1 := ⟨d - 1, by omega⟩
  refine r66_0 C K P ?_
  rw [T.2.2.2.2.2.2.2]
  refine ⟨hx, fun z => k0 (Or.inl z), fun z => ⟨fun z2 => k0 (Or.inr z2), fun z2 => ?_⟩⟩
  subst z2
  exact m24n C (by omega) T (fun h' F T' => ⟨rfl, F.1, k1 z rfl h' F T'⟩)
