/-! RULES as values; what a person wills. A rule: how many clauses; where each one's sum ends, its test ends; operations; their arguments. -/
abbrev Ru : Type := Int × (Int → Int) × (Int → Int) × (Int → Int) × (Int → Int)
def nC (R : Ru) : Int := R.1
def sE (R : Ru) : Int → Int := R.2.1
def tE (R : Ru) : Int → Int := R.2.2.1
def oP (R : Ru) : Int → Int := R.2.2.2.1
def aR (R : Ru) : Int → Int := R.2.2.2.2
def tb (R : Ru) (c : Int) : Int := if c = 0 then 0 else tE R (c - 1)
def argOK (R : Ru) (b e : Int) : Prop := ∀ j, b ≤ j → j < e → (0 ≤ oP R j ∧ oP R j < 16) ∧ (0 ≤ aR R j ∧ aR R j < 100000) ∧ (oP R j = 1 → aR R j < 12)
def RuleOK (R : Ru) : Prop := (0 ≤ nC R ∧ nC R ≤ 12) ∧ ∀ c, 0 ≤ c → c < nC R → (0 ≤ tb R c ∧ tb R c ≤ sE R c ∧ sE R c ≤ tE R c ∧ tE R c ≤ 400) ∧
  (tr (oP R) (sE R c - tb R c).toNat (tb R c) [] = some [false] ∧ nvc (oP R) (sE R c - tb R c).toNat (tb R c) ≤ 64) ∧
  (¬ sE R c = tE R c → tr (oP R) (tE R c - sE R c).toNat (sE R c) [] = some [true] ∧ nvc (oP R) (tE R c - sE R c).toNat (sE R c) ≤ 64) ∧ argOK R (tb R c) (tE R c)
/-- the rule in the reference's arrays sign, clause, clauses -/
def RefRule (A B D : Int → Int) (k : Int) (R : Ru) : Prop := D k = nC R ∧ ∀ c, 0 ≤ c → c < nC R → B (48 * k + 4 * c) = tb R c ∧ B (48 * k + 4 * c + 1) = sE R c ∧ B (48 * k + 4 * c + 2) = (if sE R c = tE R c then -1 else sE R c) ∧ B (48 * k + 4 * c + 3) = tE R c ∧ ∀ j, tb R c ≤ j → j < tE R c → A (400 * k + j) = oP R j + 16 * aR R j
noncomputable def val (R : Ru) (w : Int → Int64) (b e : Int) : Int64 := (ev (oP R) (aR R) w (e - b).toNat b []).headD 0
noncomputable def wlr (R : Ru) (w : Int → Int64) : Nat → Int → Int64
  | 0, _ => 0
  | n + 1, c => if sE R c = tE R c ∨ val R w (sE R c) (tE R c) = 1 then val R w (tb R c) (sE R c) else wlr R w n (c + 1)
noncomputable def wl (R : Ru) (w : Int → Int64) : Int64 := wlr R w (nC R).toNat 0
theorem ev_cong {op ar : Int → Int} {w w' : Int → Int64} : ∀ (n : Nat) (i : Int) (st : List Int64), (∀ j, i ≤ j → j < i + n → op j = 1 → w (ar j) = w' (ar j)) → ev op ar w n i st = ev op ar w' n i st := by
  intro n
  induction n with
  | zero => intros; rfl
  | succ n ih =>
    intro i st h
    unfold ev
    have e : ev1 (op i) (ar i) w st = ev1 (op i) (ar i) w' st := by
      unfold ev1
      by_cases c : op i = 1
      · rw [h i (Int.le_refl _) (by omega) c]
      · simp only [c, if_false]
    rw [e]
    exact ih _ _ (fun j h1 h2 => h j (by omega) (by omega))
theorem val_cong {R : Ru} {w w' : Int → Int64} (h : ∀ k, 0 ≤ k → k < 12 → w k = w' k) {b e : Int} (a : argOK R b e) : val R w b e = val R w' b e := by
  unfold val
  rw [ev_cong (w := w) (w' := w')]
  intro j h1 h2 h3
  have q := a j h1 (by omega)
  exact h _ q.2.1.1 (q.2.2 h3)
theorem argOK.sub {R : Ru} {b e b' e' : Int} (a : argOK R b e) (h1 : b ≤ b') (h2 : e' ≤ e) : argOK R b' e' := fun j x y => a j (by omega) (by omega)
theorem wl_cong {R : Ru} {w w' : Int → Int64} (h : ∀ k, 0 ≤ k → k < 12 → w k = w' k) (O : RuleOK R) : wl R w = wl R w' := by
  have a : ∀ (n : Nat) (c : Int), 0 ≤ c → c + n ≤ nC R → wlr R w n c = wlr R w' n c := by
    intro n
    induction n with
    | zero => intros; rfl
    | succ n ih =>
      intro c h1 h2
      have q := O.2 c h1 (by omega)
      unfold wlr
      rw [val_cong h (q.2.2.2.sub (b' := sE R c) (e' := tE R c) (by omega) (by omega)), val_cong h (q.2.2.2.sub (b' := tb R c) (e' := sE R c) (by omega) (by omega)), ih (c + 1) (by omega) (by omega)]
  have := O.1
  exact a _ _ (by omega) (by omega)
/-- what reckons gives is val -/
theorem r239v {X : Cst} {d : Nat} {t b e : Int} {R : Ru} {T : Bool} {h : AH} {Q : Post} (C : Lay h) (hd : 2 ≤ d) (ht : 0 ≤ t ∧ t < 6) (hb : 0 ≤ b) (hbe : b ≤ e) (he : e ≤ 400) (ha : argOK R b e) (hc : ∀ j, b ≤ j → j < e → aI h 258 (400 * t + j) = oP R j + 16 * aR R j) (hT : tr (oP R) (e - b).toNat b [] = some [T]) (hn : nvc (oP R) (e - b).toNat b ≤ 64)
    (k : ∀ h', Fr TS h h' → Q (some (.long (val R (aL h 265) b e))) h') : Ex X PG d 239 0 [some (.ref 256), some (.int (J t)), some (.int (J b)), some (.int (J e)), none, none, none, none, none, none, none] [] h Q := by
  refine m239 (op := oP R) (ar := aR R) C hd ht hb hbe he (fun j h1 h2 => ⟨hc j h1 h2, (ha j h1 h2).1, (ha j h1 h2).2.1, (ha j h1 h2).2.2⟩) hT hn (fun h' v F ee => ?_)
  have := k h' F
  unfold val at this
  rw [ee] at this
  exact this
-- OutwardDoorsModel.summedBy(I)J at 0
set_option maxRecDepth 20000 in
set_option maxHeartbeats 4000000 in
theorem r238_0 {X : Cst} {d : Nat} {x1 : Int} {h : AH} {Q : Post} (C_h : Lay h)
  (w : Ex X PG (d + 1) 238 2 [some (.ref 256), some (.int (J x1)), some (.int (J 0)), none] [] h Q) :
    Ex X PG (d + 1) 238 0 [some (.ref 256), some (.int (J x1)), none, none] [] h Q := by
  refine wpx_ok (cut := [2]) 2 d 238 0 _ _ _ _ ?_
  show Ex X PG (d + 1) 238 2 [some (.ref 256), some (.int (J x1)), some (.int (J 0)), none] [] h Q
  try simp only [aI_wAL, fI_wAL, aL_wA, aL_wF, aI_wA_ne, aI_wF_ne, fI_wA_ne, fI_wF_ne, fI_wF_nk, aL_wAL_ne, J_sameA, J_sameF, aL_same, Nat.add_left_cancel_iff, Nat.add_eq_left, Nat.left_eq_add, not_false_eq_true, Nat.reduceEqDiff, Nat.reduceAdd, J_add, J_sub, J_mul, J_neg, J_and, J_or, J_xor, J_shl, J_shr, J_div, J_i2b, J_i2l, J_l2i, J_lcm, J_max, J_min, J_nab, J_nao, rdA, rdF, rdL, wA_fold, wF_fold, wL_fold, wC_fold]
  exact w
-- OutwardDoorsModel.summedBy(I)J at 2
set_option maxRecDepth 20000 in
set_option maxHeartbeats 4000000 in
theorem r238_2 {X : Cst} {d : Nat} {x1 : Int} {x2 : Int} {l3 : Option Value} {h : AH} {Q : Post} (C_h : Lay h)
  (w : (0 ≤ x1 ∧ x1 < 6) ∧ (-2147483648 ≤ x2 ∧ x2 < 2147483648) ∧ ((aI h 261 x1 ≤ x2 → Q (some (.long (0 : Int64))) h) ∧ (¬ aI h 261 x1 ≤ x2 → (0 ≤ ((48 * x1) + (4 * x2)) + 2 ∧ ((48 * x1) + (4 * x2)) + 2 < 288) ∧ ((aI h 260 (((48 * x1) + (4 * x2)) + 2) < 0 → (0 ≤ (48 * x1) + (4 * x2) ∧ (48 * x1) + (4 * x2) < 288) ∧ (0 ≤ ((48 * x1) + (4 * x2)) + 1 ∧ ((48 * x1) + (4 * x2)) + 1 < 288) ∧ Ex X PG d 239 0 [some (.ref 256), some (.int (J x1)), some (.int (J (aI h 260 ((48 * x1) + (4 * x2))))), some (.int (J (aI h 260 (((48 * x1) + (4 * x2)) + 1)))), none, none, none, none, none, none, none] [] h (fun v14 h15 => ∃ r16, v14 = some (.long r16) ∧ SH h h15 ∧ Q (some (.long r16)) h15)) ∧ (¬ aI h 260 (((48 * x1) + (4 * x2)) + 2) < 0 → (0 ≤ ((48 * x1) + (4 * x2)) + 3 ∧ ((48 * x1) + (4 * x2)) + 3 < 288) ∧ Ex X PG d 239 0 [some (.ref 256), some (.int (J x1)), some (.int (J (aI h 260 (((48 * x1) + (4 * x2)) + 2)))), some (.int (J (aI h 260 (((48 * x1) + (4 * x2)) + 3)))), none, none, none, none, none, none, none] [] h (fun v21 h22 => ∃ r23, v21 = some (.long r23) ∧ SH h h22 ∧ ((¬ lcm r23 (1 : Int64) = 0 → Ex X PG (d + 1) 238 2 [some (.ref 256), some (.int (J x1)), some (.int (J (x2 + 1))), some (.int (J ((48 * x1) + (4 * x2))))] [] h22 Q) ∧ (lcm r23 (1 : Int64) = 0 → (0 ≤ (48 * x1) + (4 * x2) ∧ (48 * x1) + (4 * x2) < 288) ∧ (0 ≤ ((48 * x1) + (4 * x2)) + 1 ∧ ((48 * x1) + (4 * x2)) + 1 < 288) ∧ Ex X PG d 239 0 [some (.ref 256), some (.int (J x1)), some (.int (J (aI h22 260 ((48 * x1) + (4 * x2))))), some (.int (J (aI h22 260 (((48 * x1) + (4 * x2)) + 1)))), none, none, none, none, none, none, none] [] h22 (fun v30 h31 => ∃ r32, v30 = some (.long r32) ∧ SH h22 h31 ∧ Q (some (.long r32)) h31))))))))) :
    Ex X PG (d + 1) 238 2 [some (.ref 256), some (.int (J x1)), some (.int (J x2)), l3] [] h Q := by
  refine wpx_ok (cut := [2]) 53 d 238 2 _ _ _ _ ?_
  show hs h 256 = (0, 11) ∧ ∃ q1, hR h 256 6 = some q1 ∧ (hs h q1).1 = 1 ∧ ix (J x1) (hs h q1).2 ∧ (((hI h q1 (Int32.toNatClampNeg (J x1))) ≤ (J x2) → Q (some (.long (0 : Int64))) h) ∧ (¬ ((hI h q1 (Int32.toNatClampNeg (J x1))) ≤ (J x2)) → hs h 256 = (0, 11) ∧ ∃ q6, hR h 256 5 = some q6 ∧ (hs h q6).1 = 1 ∧ ix ((((J 48) * (J x1)) + ((J 4) * (J x2))) + (J 2)) (hs h q6).2 ∧ (((hI h q6 (Int32.toNatClampNeg ((((J 48) * (J x1)) + ((J 4) * (J x2))) + (J 2)))) < (J 0) → hs h 256 = (0, 11) ∧ ∃ q10, hR h 256 5 = some q10 ∧ (hs h q10).1 = 1 ∧ ix (((J 48) * (J x1)) + ((J 4) * (J x2))) (hs h q10).2 ∧ hs h 256 = (0, 11) ∧ ∃ q12, hR h 256 5 = some q12 ∧ (hs h q12).1 = 1 ∧ ix ((((J 48) * (J x1)) + ((J 4) * (J x2))) + (J 1)) (hs h q12).2 ∧ hs h 256 = (0, 11) ∧ Ex X PG d 239 0 [some (.ref 256), some (.int (J x1)), some (.int (hI h q10 (Int32.toNatClampNeg (((J 48) * (J x1)) + ((J 4) * (J x2)))))), some (.int (hI h q12 (Int32.toNatClampNeg ((((J 48) * (J x1)) + ((J 4) * (J x2))) + (J 1))))), none, none, none, none, none, none, none] [] h (fun v14 h15 => ∃ r16, v14 = some (.long r16) ∧ Q (some (.long r16)) h15)) ∧ (¬ ((hI h q6 (Int32.toNatClampNeg ((((J 48) * (J x1)) + ((J 4) * (J x2))) + (J 2)))) < (J 0)) → hs h 256 = (0, 11) ∧ ∃ q18, hR h 256 5 = some q18 ∧ (hs h q18).1 = 1 ∧ ix ((((J 48) * (J x1)) + ((J 4) * (J x2))) + (J 2)) (hs h q18).2 ∧ hs h 256 = (0, 11) ∧ ∃ q19, hR h 256 5 = some q19 ∧ (hs h q19).1 = 1 ∧ ix ((((J 48) * (J x1)) + ((J 4) * (J x2))) + (J 3)) (hs h q19).2 ∧ hs h 256 = (0, 11) ∧ Ex X PG d 239 0 [some (.ref 256), some (.int (J x1)), some (.int (hI h q18 (Int32.toNatClampNeg ((((J 48) * (J x1)) + ((J 4) * (J x2))) + (J 2))))), some (.int (hI h q19 (Int32.toNatClampNeg ((((J 48) * (J x1)) + ((J 4) * (J x2))) + (J 3))))), none, none, none, none, none, none, none] [] h (fun v21 h22 => ∃ r23, v21 = some (.long r23) ∧ ((¬ (lg_cmp r23 (1 : Int64)) = (J 0) → Ex X PG (d + 1) 238 2 [some (.ref 256), some (.int (J x1)), some (.int ((J x2) + (J 1))), some (.int (((J 48) * (J x1)) + ((J 4) * (J x2))))] [] h22 Q) ∧ (¬ (¬ (lg_cmp r23 (1 : Int64)) = (J 0)) → hs h22 256 = (0, 11) ∧ ∃ q26, hR h22 256 5 = some q26 ∧ (hs h22 q26).1 = 1 ∧ ix (((J 48) * (J x1)) + ((J 4) * (J x2))) (hs h22 q26).2 ∧ hs h22 256 = (0, 11) ∧ ∃ q28, hR h22 256 5 = some q28 ∧ (hs h22 q28).1 = 1 ∧ ix ((((J 48) * (J x1)) + ((J 4) * (J x2))) + (J 1)) (hs h22 q28).2 ∧ hs h22 256 = (0, 11) ∧ Ex X PG d 239 0 [some (.ref 256), some (.int (J x1)), some (.int (hI h22 q26 (Int32.toNatClampNeg (((J 48) * (J x1)) + ((J 4) * (J x2)))))), some (.int (hI h22 q28 (Int32.toNatClampNeg ((((J 48) * (J x1)) + ((J 4) * (J x2))) + (J 1))))), none, none, none, none, none, none, none] [] h22 (fun v30 h31 => ∃ r32, v30 = some (.long r32) ∧ Q (some (.long r32)) h31))))))))
  try simp only [aI_wAL, fI_wAL, aL_wA, aL_wF, aI_wA_ne, aI_wF_ne, fI_wA_ne, fI_wF_ne, fI_wF_nk, aL_wAL_ne, J_sameA, J_sameF, aL_same, Nat.add_left_cancel_iff, Nat.add_eq_left, Nat.left_eq_add, not_false_eq_true, Nat.reduceEqDiff, Nat.reduceAdd, J_add, J_sub, J_mul, J_neg, J_and, J_or, J_xor, J_shl, J_shr, J_div, J_i2b, J_i2l, J_l2i, J_lcm, J_max, J_min, J_nab, J_nao, rdA, rdF, rdL, wA_fold, wF_fold, wL_fold, wC_fold]
  refine ⟨(ls256 C_h), _, (lr256_6 C_h), ?_⟩
  obtain ⟨k2, w⟩ := w
  refine ⟨congrArg Prod.fst (ls261 C_h), ixs (ls261 C_h) k2 (by decide), ?_⟩
  obtain ⟨k5, w⟩ := w
  refine ⟨fun c3 => ?_, fun c3 => ?_⟩
  · have t4 : aI h 261 x1 ≤ x2 := ((Jle (rg_toInt _) k5).mp c3)
    replace w := w.1 t4
    exact w
  · have t4 : ¬ aI h 261 x1 ≤ x2 := (fun e => c3 ((Jle (rg_toInt _) k5).mpr e))
    replace w := w.2 t4
    refine ⟨(ls256 C_h), _, (lr256_5 C_h), ?_⟩
    obtain ⟨k7, w⟩ := w
    refine ⟨congrArg Prod.fst (ls260 C_h), ixs (ls260 C_h) k7 (by decide), ?_⟩
    refine ⟨fun c8 => ?_, fun c8 => ?_⟩
    · have t9 : aI h 260 (((48 * x1) + (4 * x2)) + 2) < 0 := ((Jlt (rg_toInt _) (by decide)).mp c8)
      replace w := w.1 t9
      refine ⟨(ls256 C_h), _, (lr256_5 C_h), ?_⟩
      obtain ⟨k11, w⟩ := w
      refine ⟨congrArg Prod.fst (ls260 C_h), ixs (ls260 C_h) k11 (by decide), ?_⟩
      refine ⟨(ls256 C_h), _, (lr256_5 C_h), ?_⟩
      obtain ⟨k13, w⟩ := w
      refine ⟨congrArg Prod.fst (ls260 C_h), ixs (ls260 C_h) k13 (by decide), ?_⟩
      refine ⟨(ls256 C_h), ?_⟩
      refine Ex.mono w (Nat.le_refl _) ?_
      rintro v14 h15 ⟨r16, rfl, s17, w⟩
      refine ⟨_, rfl, ?_⟩
      have C_h15 := Lay_SH s17 C_h
      try simp only [aI_wAL, fI_wAL, aL_wA, aL_wF, aI_wA_ne, aI_wF_ne, fI_wA_ne, fI_wF_ne, fI_wF_nk, aL_wAL_ne, J_sameA, J_sameF, aL_same, Nat.add_left_cancel_iff, Nat.add_eq_left, Nat.left_eq_add, not_false_eq_true, Nat.reduceEqDiff, Nat.reduceAdd, J_add, J_sub, J_mul, J_neg, J_and, J_or, J_xor, J_shl, J_shr, J_div, J_i2b, J_i2l, J_l2i, J_lcm, J_max, J_min, J_nab, J_nao, rdA, rdF, rdL, wA_fold, wF_fold, wL_fold, wC_fold]
      exact w
    · have t9 : ¬ aI h 260 (((48 * x1) + (4 * x2)) + 2) < 0 := (fun e => c8 ((Jlt (rg_toInt _) (by decide)).mpr e))
      replace w := w.2 t9
      refine ⟨(ls256 C_h), _, (lr256_5 C_h), ?_⟩
      refine ⟨congrArg Prod.fst (ls260 C_h), ixs (ls260 C_h) k7 (by decide), ?_⟩
      refine ⟨(ls256 C_h), _, (lr256_5 C_h), ?_⟩
      obtain ⟨k20, w⟩ := w
      refine ⟨congrArg Prod.fst (ls260 C_h), ixs (ls260 C_h) k20 (by decide), ?_⟩
      refine ⟨(ls256 C_h), ?_⟩
      refine Ex.mono w (Nat.le_refl _) ?_
      rintro v21 h22 ⟨r23, rfl, s34, w⟩
      refine ⟨_, rfl, ?_⟩
      have C_h22 := Lay_SH s34 C_h
      try simp only [aI_wAL, fI_wAL, aL_wA, aL_wF, aI_wA_ne, aI_wF_ne, fI_wA_ne, fI_wF_ne, fI_wF_nk, aL_wAL_ne, J_sameA, J_sameF, aL_same, Nat.add_left_cancel_iff, Nat.add_eq_left, Nat.left_eq_add, not_false_eq_true, Nat.reduceEqDiff, Nat.reduceAdd, J_add, J_sub, J_mul, J_neg, J_and, J_or, J_xor, J_shl, J_shr, J_div, J_i2b, J_i2l, J_l2i, J_lcm, J_max, J_min, J_nab, J_nao, rdA, rdF, rdL, wA_fold, wF_fold, wL_fold, wC_fold]
      refine ⟨fun c24 => ?_, fun c24 => ?_⟩
      · have t25 : ¬ lcm r23 (1 : Int64) = 0 := (fun e => c24 ((Jeq (rg_toInt _) (by decide)).mpr e))
        replace w := w.1 t25
        exact w
      · have t25 : lcm r23 (1 : Int64) = 0 := ((Jeq (rg_toInt _) (by decide)).mp (Classical.byContradiction c24))
        replace w := w.2 t25
        refine ⟨(ls256 C_h22), _, (lr256_5 C_h22), ?_⟩
        obtain ⟨k27, w⟩ := w
        refine ⟨congrArg Prod.fst (ls260 C_h22), ixs (ls260 C_h22) k27 (by decide), ?_⟩
        refine ⟨(ls256 C_h22), _, (lr256_5 C_h22), ?_⟩
        obtain ⟨k29, w⟩ := w
        refine ⟨congrArg Prod.fst (ls260 C_h22), ixs (ls260 C_h22) k29 (by decide), ?_⟩
        refine ⟨(ls256 C_h22), ?_⟩
        refine Ex.mono w (Nat.le_refl _) ?_
        rintro v30 h31 ⟨r32, rfl, s33, w⟩
        refine ⟨_, rfl, ?_⟩
        have C_h31 := Lay_SH s33 C_h22
        try simp only [aI_wAL, fI_wAL, aL_wA, aL_wF, aI_wA_ne, aI_wF_ne, fI_wA_ne, fI_wF_ne, fI_wF_nk, aL_wAL_ne, J_sameA, J_sameF, aL_same, Nat.add_left_cancel_iff, Nat.add_eq_left, Nat.left_eq_add, not_false_eq_true, Nat.reduceEqDiff, Nat.reduceAdd, J_add, J_sub, J_mul, J_neg, J_and, J_or, J_xor, J_shl, J_shr, J_div, J_i2b, J_i2l, J_l2i, J_lcm, J_max, J_min, J_nab, J_nao, rdA, rdF, rdL, wA_fold, wF_fold, wL_fold, wC_fold]
        exact w
theorem q238_2 {X : Cst} {d : Nat} {t : Int} {R : Ru} {h0 : AH} {Q : Post} (C0 : Lay h0) (hd : 2 ≤ d) (ht : 0 ≤ t ∧ t < 6) (O : RuleOK R) (RR : RefRule (aI h0 258) (aI h0 260) (aI h0 261) t R) (k : ∀ h', Fr TS h0 h' → Q (some (.long (wl R (aL h0 265)))) h') :
    ∀ (n : Nat) (c : Int) (h : AH) (l3 : Option Value), Fr TS h0 h → nC R - c = n → 0 ≤ c → wlr R (aL h0 265) n c = wl R (aL h0 265) → Ex X PG (d + 1) 238 2 [some (.ref 256), some (.int (J t)), some (.int (J c)), l3] [] h Q := by
  have nt : ∀ c k, c ≠ 264 → c ≠ 256 → ¬ TS c k := fun c k a b z => by rcases z with z | z <;> omega
  have b0 := O.1
  intro n
  induction n with
  | zero =>
    intro c h l3 F h1 h2 e
    have e1 : aI h 261 = aI h0 261 := F.a 261 (fun k => nt _ _ (by decide) (by decide))
    refine r238_2 (F.C C0) ?_
    rw [e1, RR.1]
    refine ⟨ht, by omega, fun _ => ?_, fun z => absurd (by omega) z⟩
    have := k h F
    rw [← e] at this
    exact this
  | succ n ih =>
    intro c h l3 F h1 h2 e
    have e1 : aI h 261 = aI h0 261 := F.a 261 (fun k => nt _ _ (by decide) (by decide))
    have e0 : aI h 260 = aI h0 260 := F.a 260 (fun k => nt _ _ (by decide) (by decide))
    have e8 : aI h 258 = aI h0 258 := F.a 258 (fun k => nt _ _ (by decide) (by decide))
    have e5 : aL h 265 = aL h0 265 := F.l 265 (fun k => nt _ _ (by decide) (by decide))
    have q := O.2 c h2 (by omega)
    have r := RR.2 c h2 (by omega)
    unfold wlr at e
    have sm : ∀ (h : AH), Fr TS h0 h → (sE R c = tE R c ∨ val R (aL h0 265) (sE R c) (tE R c) = 1) → ∀ Q', (∀ h', Fr TS h0 h' → Q' (some (.long (wl R (aL h0 265)))) h') → Ex X PG d 239 0 [some (.ref 256), some (.int (J t)), some (.int (J (tb R c))), some (.int (J (sE R c))), none, none, none, none, none, none, none] [] h Q' := by
      intro h F o Q' k
      have e8 : aI h 258 = aI h0 258 := F.a 258 (fun k => nt _ _ (by decide) (by decide))
      have e5 : aL h 265 = aL h0 265 := F.l 265 (fun k => nt _ _ (by decide) (by decide))
      rw [if_pos o] at e
      refine r239v (R := R) (T := false) (F.C C0) hd ht q.1.1 q.1.2.1 (by omega) (q.2.2.2.sub (Int.le_refl _) q.1.2.2.1) (fun j x y => by rw [e8]; exact r.2.2.2.2 j x (by omega)) q.2.1.1 q.2.1.2 (fun h' F' => ?_)
      rw [e5, e]
      exact k h' (F.tr F')
    refine r238_2 (F.C C0) ?_
    rw [e1, e0, RR.1, r.1, r.2.1, r.2.2.1, r.2.2.2.1]
    refine ⟨ht, by omega, fun z => absurd z (by omega), fun _ => ⟨by omega, fun z => ⟨by omega, by omega, ?_⟩, fun z => ⟨by omega, ?_⟩⟩⟩
    · have o : sE R c = tE R c := by
        by_cases w : sE R c = tE R c
        · exact w
        · rw [if_neg w] at z; omega
      exact sm h F (Or.inl o) _ (fun h' F' => ⟨_, rfl, by have := F'.1; exact ⟨this.1.trans F.1.1.symm, this.2.trans F.1.2.symm⟩, k h' F'⟩)
    · have o : ¬ sE R c = tE R c := by
        intro w
        rw [if_pos w] at z; omega
      rw [if_neg o]
      refine r239v (R := R) (T := true) (F.C C0) hd ht (by omega) q.1.2.2.1 (by omega) (q.2.2.2.sub q.1.2.1 (Int.le_refl _)) (fun j x y => by rw [e8]; exact r.2.2.2.2 j (by omega) y) (q.2.2.1 o).1 (q.2.2.1 o).2 (fun h22 F2 => ?_)
      refine ⟨_, rfl, F2.1, ?_⟩
      have e02 : aI h22 260 = aI h0 260 := (F.tr F2).a 260 (fun k => nt _ _ (by decide) (by decide))
      rw [e02, r.1, r.2.1, lcm_eq0, e5]
      refine ⟨fun v => ?_, fun v => ⟨by omega, by omega, ?_⟩⟩
      · refine ih (c + 1) h22 _ (F.tr F2) (by omega) (by omega) ?_
        rw [if_neg (fun y => y.elim o v)] at e
        exact e
      · exact sm h22 (F.tr F2) (Or.inr v) _ (fun h' F' => ⟨_, rfl, by have := F'.1; exact ⟨this.1.trans (F.tr F2).1.1.symm, this.2.trans (F.tr F2).1.2.symm⟩, k h' F'⟩)
theorem m238 {X : Cst} {d : Nat} {t : Int} {R : Ru} {h : AH} {Q : Post} (C : Lay h) (hd : 3 ≤ d) (ht : 0 ≤ t ∧ t < 6) (O : RuleOK R) (RR : RefRule (aI h 258) (aI h 260) (aI h 261) t R) (k : ∀ h', Fr TS h h' → Q (some (.long (wl R (aL h 265)))) h') : Ex X PG d 238 0 [some (.ref 256), some (.int (J t)), none, none] [] h Q := by
  obtain ⟨d, rfl⟩ : ∃ e, d = e + 1 := ⟨d - 1, by omega⟩
  have b0 := O.1
  exact r238_0 C (q238_2 C (by omega) ht O RR k (nC R).toNat 0 h none Fr.rf (by omega) (by omega) rfl)
/-- the will; the door -/
noncomputable def wv (S : Int → Int) (f : Int) (Rs : Int → Ru) (p : Int) : Int64 := if f < 0 then 1 else wl (Rs f) fun k => i2l (wd S (nightP S) p k)
noncomputable def wdoN (S : Int → Int) (n : Int64) (p : Int) : Int :=
  if n < 0 then fou S (nightP S) (pS S p 0) else if 0 < n then (if stp S (nightP S) (pS S p 0) (pS S p 1) < 0 then -1 else dbt S (pS S p 0) (stp S (nightP S) (pS S p 0) (pS S p 1))) else -1
noncomputable def wdo (S : Int → Int) (f : Int) (Rs : Int → Ru) (p : Int) : Int := wdoN S (wv S f Rs p) p
theorem wdoN_b {N : Int} {S : Int → Int} (W : WF N S) (n : Int64) (p : Int) : wdoN S n p = -1 ∨ (0 ≤ wdoN S n p ∧ wdoN S n p < S 1) := by
  have b := W.1
  unfold WFb at b
  have f := lst_b (P := fouP S (nightP S) (pS S p 0)) (n := S 1) (by omega) (fun v z => z.1)
  have g := lst_b (P := dbtP S (pS S p 0) (stp S (nightP S) (pS S p 0) (pS S p 1))) (n := S 1) (by omega) (fun v z => z.1)
  unfold wdoN fou dbt
  split
  · omega
  · split
    · split <;> omega
    · omega
theorem nao_0 : nao 0 = 0 := by decide
theorem nao_1 : nao 1 = 1 := by decide
def TW (c k : Nat) : Prop := c = 264 ∨ c = 265 ∨ c = 267 ∨ c = 268 ∨ c = 269 ∨ (c = 256 ∧ k = 18)
/-- the reference's rules stand in its arrays -/
def RefOK (h : AH) (f : Int) (Rs : Int → Ru) : Prop := f < 0 ∨ (f < 6 ∧ RuleOK (Rs f) ∧ RefRule (aI h 258) (aI h 260) (aI h 261) f (Rs f))
theorem RefOK.fr {T : Nat → Nat → Prop} {h h' : AH} {f : Int} {Rs : Int → Ru} (x : RefOK h f Rs) (F : Fr T h h') (n : ∀ c k, T c k → ¬ c = 258 ∧ ¬ c = 260 ∧ ¬ c = 261) : RefOK h' f Rs := by
  unfold RefOK
  rw [F.a 258 (fun k z => (n _ k z).1 rfl), F.a 260 (fun k z => (n _ k z).2.1 rfl), F.a 261 (fun k z => (n _ k z).2.2 rfl)]
  exact x
-- OutwardDoorsModel.wills(I)V at 0
set_option maxRecDepth 20000 in
set_option maxHeartbeats 4000000 in
theorem r234_0 {X : Cst} {d : Nat} {x1 : Int} {h : AH} {Q : Post} (C_h : Lay h) (hd : 8 ≤ d)
  (w : ((fI h 256 21 < 0 → Ex X PG (d + 1) 234 23 [some (.ref 256), some (.int (J x1)), some (.long (1 : Int64)), none, none, none] [] h Q) ∧ (¬ fI h 256 21 < 0 → (WF 999 (aI h 266)) ∧ (0 ≤ x1 ∧ x1 < aI h 266 2) ∧ (∀ h4, SH h h4 → (Fr (fun c _ => c = 265 ∨ c = 267) h h4 ∧ ∀ k, 0 ≤ k → k < 12 → aL h4 265 k = i2l (wd (aI h 266) (nightP (aI h 266)) x1 k)) → Ex X PG d 238 0 [some (.ref 256), some (.int (J (fI h4 256 21))), none, none] [] h4 (fun v7 h8 => ∃ r9, v7 = some (.long r9) ∧ SH h4 h8 ∧ Ex X PG (d + 1) 234 23 [some (.ref 256), some (.int (J x1)), some (.long r9), none, none, none] [] h8 Q))))) :
    Ex X PG (d + 1) 234 0 [some (.ref 256), some (.int (J x1)), none, none, none, none] [] h Q := by
  refine wpx_ok (cut := [23, 48, 86]) 13 d 234 0 _ _ _ _ ?_
  show hs h 256 = (0, 11) ∧ (((hF h 256 21) < (J 0) → Ex X PG (d + 1) 234 23 [some (.ref 256), some (.int (J x1)), some (.long (1 : Int64)), none, none, none] [] h Q) ∧ (¬ ((hF h 256 21) < (J 0)) → hs h 256 = (0, 11) ∧ Ex X PG d 235 0 [some (.ref 256), some (.int (J x1)), none] [] h (fun v3 h4 => v3 = none ∧ hs h4 256 = (0, 11) ∧ hs h4 256 = (0, 11) ∧ Ex X PG d 238 0 [some (.ref 256), some (.int (hF h4 256 21)), none, none] [] h4 (fun v7 h8 => ∃ r9, v7 = some (.long r9) ∧ Ex X PG (d + 1) 234 23 [some (.ref 256), some (.int (J x1)), some (.long r9), none, none, none] [] h8 Q))))
  try simp only [aI_wAL, fI_wAL, aL_wA, aL_wF, aI_wA_ne, aI_wF_ne, fI_wA_ne, fI_wF_ne, fI_wF_nk, aL_wAL_ne, J_sameA, J_sameF, aL_same, Nat.add_left_cancel_iff, Nat.add_eq_left, Nat.left_eq_add, not_false_eq_true, Nat.reduceEqDiff, Nat.reduceAdd, J_add, J_sub, J_mul, J_neg, J_and, J_or, J_xor, J_shl, J_shr, J_div, J_i2b, J_i2l, J_l2i, J_lcm, J_max, J_min, J_nab, J_nao, rdA, rdF, rdL, wA_fold, wF_fold, wL_fold, wC_fold]
  refine ⟨(ls256 C_h), ?_⟩
  refine ⟨fun c1 => ?_, fun c1 => ?_⟩
  · have t2 : fI h 256 21 < 0 := ((Jlt (rg_toInt _) (by decide)).mp c1)
    replace w := w.1 t2
    exact w
  · have t2 : ¬ fI h 256 21 < 0 := (fun e => c1 ((Jlt (rg_toInt _) (by decide)).mpr e))
    replace w := w.2 t2
    refine ⟨(ls256 C_h), ?_⟩
    obtain ⟨k5, w⟩ := w
    obtain ⟨k6, w⟩ := w
    refine m235 (h := h) (p := x1) C_h (by omega) k5 k6 ?_
    intro h4 s11 p12
    replace w := w h4 s11 p12
    refine ⟨rfl, ?_⟩
    have C_h4 := Lay_SH s11 C_h
    try simp only [aI_wAL, fI_wAL, aL_wA, aL_wF, aI_wA_ne, aI_wF_ne, fI_wA_ne, fI_wF_ne, fI_wF_nk, aL_wAL_ne, J_sameA, J_sameF, aL_same, Nat.add_left_cancel_iff, Nat.add_eq_left, Nat.left_eq_add, not_false_eq_true, Nat.reduceEqDiff, Nat.reduceAdd, J_add, J_sub, J_mul, J_neg, J_and, J_or, J_xor, J_shl, J_shr, J_div, J_i2b, J_i2l, J_l2i, J_lcm, J_max, J_min, J_nab, J_nao, rdA, rdF, rdL, wA_fold, wF_fold, wL_fold, wC_fold]
    refine ⟨(ls256 C_h4), ?_⟩
    refine ⟨(ls256 C_h4), ?_⟩
    refine Ex.mono w (Nat.le_refl _) ?_
    rintro v7 h8 ⟨r9, rfl, s10, w⟩
    refine ⟨_, rfl, ?_⟩
    have C_h8 := Lay_SH s10 C_h4
    try simp only [aI_wAL, fI_wAL, aL_wA, aL_wF, aI_wA_ne, aI_wF_ne, fI_wA_ne, fI_wF_ne, fI_wF_nk, aL_wAL_ne, J_sameA, J_sameF, aL_same, Nat.add_left_cancel_iff, Nat.add_eq_left, Nat.left_eq_add, not_false_eq_true, Nat.reduceEqDiff, Nat.reduceAdd, J_add, J_sub, J_mul, J_neg, J_and, J_or, J_xor, J_shl, J_shr, J_div, J_i2b, J_i2l, J_l2i, J_lcm, J_max, J_min, J_nab, J_nao, rdA, rdF, rdL, wA_fold, wF_fold, wL_fold, wC_fold]
    exact w
-- OutwardDoorsModel.wills(I)V at 23
set_option maxRecDepth 20000 in
set_option maxHeartbeats 4000000 in
theorem r234_23 {X : Cst} {d : Nat} {x1 : Int} {x2 : Int64} {l4 : Option Value} {l5 : Option Value} {h : AH} {Q : Post} (C_h : Lay h) (hd : 6 ≤ d)
  (w : (0 ≤ 10 + 6 * x1 + 0 ∧ 10 + 6 * x1 + 0 < 123) ∧ ((lcm x2 (0 : Int64) ≤ 0 → Ex X PG (d + 1) 234 48 [some (.ref 256), some (.int (J x1)), some (.long x2), none, some (.int (J (pS (aI h 266) x1 0))), some (.int (J (-1)))] [] h Q) ∧ (¬ lcm x2 (0 : Int64) ≤ 0 → (WF 999 (aI h 266)) ∧ (0 ≤ x1 ∧ x1 < aI h 266 2) ∧ (∀ h8, SH h h8 → (Fr (fun c _ => c = 267) h h8) → Ex X PG (d + 1) 234 48 [some (.ref 256), some (.int (J x1)), some (.long x2), none, some (.int (J (pS (aI h 266) x1 0))), some (.int (J (stp (aI h 266) (nightP (aI h 266)) (pS (aI h 266) x1 0) (pS (aI h 266) x1 1))))] [] h8 Q)))) :
    Ex X PG (d + 1) 234 23 [some (.ref 256), some (.int (J x1)), some (.long x2), none, l4, l5] [] h Q := by
  refine wpx_ok (cut := [23, 48, 86]) 14 d 234 23 _ _ _ _ ?_
  show hs h 256 = (0, 11) ∧ Ex X PG d 209 0 [some (.ref 256), some (.int (J x1)), some (.int (J 0))] [] h (fun v1 h2 => ∃ r3, v1 = some (.int r3) ∧ (((lg_cmp x2 (0 : Int64)) ≤ (J 0) → Ex X PG (d + 1) 234 48 [some (.ref 256), some (.int (J x1)), some (.long x2), none, some (.int r3), some (.int (J (-1)))] [] h2 Q) ∧ (¬ ((lg_cmp x2 (0 : Int64)) ≤ (J 0)) → hs h2 256 = (0, 11) ∧ Ex X PG d 221 0 [some (.ref 256), some (.int (J x1)), none, none, none, none, none] [] h2 (fun v7 h8 => ∃ r9, v7 = some (.int r9) ∧ Ex X PG (d + 1) 234 48 [some (.ref 256), some (.int (J x1)), some (.long x2), none, some (.int r3), some (.int r9)] [] h8 Q))))
  try simp only [aI_wAL, fI_wAL, aL_wA, aL_wF, aI_wA_ne, aI_wF_ne, fI_wA_ne, fI_wF_ne, fI_wF_nk, aL_wAL_ne, J_sameA, J_sameF, aL_same, Nat.add_left_cancel_iff, Nat.add_eq_left, Nat.left_eq_add, not_false_eq_true, Nat.reduceEqDiff, Nat.reduceAdd, J_add, J_sub, J_mul, J_neg, J_and, J_or, J_xor, J_shl, J_shr, J_div, J_i2b, J_i2l, J_l2i, J_lcm, J_max, J_min, J_nab, J_nao, rdA, rdF, rdL, wA_fold, wF_fold, wL_fold, wC_fold]
  refine ⟨(ls256 C_h), ?_⟩
  obtain ⟨k4, w⟩ := w
  refine m209 (h := h) (p := x1) (w := 0) C_h (by omega) k4 ?_
  refine ⟨_, rfl, ?_⟩
  try simp only [aI_wAL, fI_wAL, aL_wA, aL_wF, aI_wA_ne, aI_wF_ne, fI_wA_ne, fI_wF_ne, fI_wF_nk, aL_wAL_ne, J_sameA, J_sameF, aL_same, Nat.add_left_cancel_iff, Nat.add_eq_left, Nat.left_eq_add, not_false_eq_true, Nat.reduceEqDiff, Nat.reduceAdd, J_add, J_sub, J_mul, J_neg, J_and, J_or, J_xor, J_shl, J_shr, J_div, J_i2b, J_i2l, J_l2i, J_lcm, J_max, J_min, J_nab, J_nao, rdA, rdF, rdL, wA_fold, wF_fold, wL_fold, wC_fold]
  refine ⟨fun c5 => ?_, fun c5 => ?_⟩
  · have t6 : lcm x2 (0 : Int64) ≤ 0 := ((Jle (rg_toInt _) (by decide)).mp c5)
    replace w := w.1 t6
    exact w
  · have t6 : ¬ lcm x2 (0 : Int64) ≤ 0 := (fun e => c5 ((Jle (rg_toInt _) (by decide)).mpr e))
    replace w := w.2 t6
    refine ⟨(ls256 C_h), ?_⟩
    obtain ⟨k10, w⟩ := w
    obtain ⟨k11, w⟩ := w
    refine m221 (h := h) (p := x1) C_h (by omega) k10 k11 ?_
    intro h8 s12 p13
    replace w := w h8 s12 p13
    refine ⟨_, rfl, ?_⟩
    have C_h8 := Lay_SH s12 C_h
    try simp only [aI_wAL, fI_wAL, aL_wA, aL_wF, aI_wA_ne, aI_wF_ne, fI_wA_ne, fI_wF_ne, fI_wF_nk, aL_wAL_ne, J_sameA, J_sameF, aL_same, Nat.add_left_cancel_iff, Nat.add_eq_left, Nat.left_eq_add, not_false_eq_true, Nat.reduceEqDiff, Nat.reduceAdd, J_add, J_sub, J_mul, J_neg, J_and, J_or, J_xor, J_shl, J_shr, J_div, J_i2b, J_i2l, J_l2i, J_lcm, J_max, J_min, J_nab, J_nao, rdA, rdF, rdL, wA_fold, wF_fold, wL_fold, wC_fold]
    exact w
-- OutwardDoorsModel.wills(I)V at 48
set_option maxRecDepth 20000 in
set_option maxHeartbeats 4000000 in
theorem r234_48 {X : Cst} {d : Nat} {x1 : Int} {x2 : Int64} {x4 : Int} {x5 : Int} {h : AH} {Q : Post} (C_h : Lay h) (hd : 3 ≤ d)
  (w : ((0 ≤ lcm x2 (0 : Int64) → (-2147483648 ≤ x5 ∧ x5 < 2147483648) ∧ ((0 ≤ x5 → (WF 999 (aI h 266)) ∧ (-2147483648 ≤ x4 ∧ x4 < 2147483648) ∧ (0 ≤ x1 ∧ x1 < 4) ∧ Ex X PG (d + 1) 234 86 [some (.ref 256), some (.int (J x1)), some (.long x2), none, some (.int (J x4)), some (.int (J x5))] [] (wA h 268 x1 (dbt (aI h 266) x4 x5)) Q) ∧ (¬ 0 ≤ x5 → (0 ≤ x1 ∧ x1 < 4) ∧ Ex X PG (d + 1) 234 86 [some (.ref 256), some (.int (J x1)), some (.long x2), none, some (.int (J x4)), some (.int (J x5))] [] (wA h 268 x1 (-1)) Q))) ∧ (¬ 0 ≤ lcm x2 (0 : Int64) → (WF 999 (aI h 266)) ∧ (-2147483648 ≤ x4 ∧ x4 < 2147483648) ∧ (0 ≤ x1 ∧ x1 < 4) ∧ Ex X PG (d + 1) 234 86 [some (.ref 256), some (.int (J x1)), some (.long x2), none, some (.int (J x4)), some (.int (J x5))] [] (wA h 268 x1 (fou (aI h 266) (nightP (aI h 266)) x4)) Q))) :
    Ex X PG (d + 1) 234 48 [some (.ref 256), some (.int (J x1)), some (.long x2), none, some (.int (J x4)), some (.int (J x5))] [] h Q := by
  refine wpx_ok (cut := [23, 48, 86]) 14 d 234 48 _ _ _ _ ?_
  show hs h 256 = (0, 11) ∧ ∃ q1, hR h 256 24 = some q1 ∧ (((J 0) ≤ (lg_cmp x2 (0 : Int64)) → (((J 0) ≤ (J x5) → hs h 256 = (0, 11) ∧ Ex X PG d 244 0 [some (.ref 256), some (.int (J x4)), some (.int (J x5)), none] [] h (fun v7 h8 => ∃ r9, v7 = some (.int r9) ∧ (hs h8 q1).1 = 1 ∧ ix (J x1) (hs h8 q1).2 ∧ Ex X PG (d + 1) 234 86 [some (.ref 256), some (.int (J x1)), some (.long x2), none, some (.int (J x4)), some (.int (J x5))] [] (wI h8 q1 (Int32.toNatClampNeg (J x1)) r9) Q)) ∧ (¬ ((J 0) ≤ (J x5)) → (hs h q1).1 = 1 ∧ ix (J x1) (hs h q1).2 ∧ Ex X PG (d + 1) 234 86 [some (.ref 256), some (.int (J x1)), some (.long x2), none, some (.int (J x4)), some (.int (J x5))] [] (wI h q1 (Int32.toNatClampNeg (J x1)) (J (-1))) Q))) ∧ (¬ ((J 0) ≤ (lg_cmp x2 (0 : Int64))) → hs h 256 = (0, 11) ∧ Ex X PG d 243 0 [some (.ref 256), some (.int (J x4)), none] [] h (fun v14 h15 => ∃ r16, v14 = some (.int r16) ∧ (hs h15 q1).1 = 1 ∧ ix (J x1) (hs h15 q1).2 ∧ Ex X PG (d + 1) 234 86 [some (.ref 256), some (.int (J x1)), some (.long x2), none, some (.int (J x4)), some (.int (J x5))] [] (wI h15 q1 (Int32.toNatClampNeg (J x1)) r16) Q)))
  try simp only [aI_wAL, fI_wAL, aL_wA, aL_wF, aI_wA_ne, aI_wF_ne, fI_wA_ne, fI_wF_ne, fI_wF_nk, aL_wAL_ne, J_sameA, J_sameF, aL_same, Nat.add_left_cancel_iff, Nat.add_eq_left, Nat.left_eq_add, not_false_eq_true, Nat.reduceEqDiff, Nat.reduceAdd, J_add, J_sub, J_mul, J_neg, J_and, J_or, J_xor, J_shl, J_shr, J_div, J_i2b, J_i2l, J_l2i, J_lcm, J_max, J_min, J_nab, J_nao, rdA, rdF, rdL, wA_fold, wF_fold, wL_fold, wC_fold]
  refine ⟨(ls256 C_h), _, (lr256_24 C_h), ?_⟩
  refine ⟨fun c2 => ?_, fun c2 => ?_⟩
  · have t3 : 0 ≤ lcm x2 (0 : Int64) := ((Jle (by decide) (rg_toInt _)).mp c2)
    replace w := w.1 t3
    obtain ⟨k6, w⟩ := w
    refine ⟨fun c4 => ?_, fun c4 => ?_⟩
    · have t5 : 0 ≤ x5 := ((Jle (by decide) k6).mp c4)
      replace w := w.1 t5
      refine ⟨(ls256 C_h), ?_⟩
      obtain ⟨k10, w⟩ := w
      obtain ⟨k11, w⟩ := w
      refine m244 (h := h) (a := x4) (b := x5) C_h (by omega) k10 k11 k6 ?_
      refine ⟨_, rfl, ?_⟩
      try simp only [aI_wAL, fI_wAL, aL_wA, aL_wF, aI_wA_ne, aI_wF_ne, fI_wA_ne, fI_wF_ne, fI_wF_nk, aL_wAL_ne, J_sameA, J_sameF, aL_same, Nat.add_left_cancel_iff, Nat.add_eq_left, Nat.left_eq_add, not_false_eq_true, Nat.reduceEqDiff, Nat.reduceAdd, J_add, J_sub, J_mul, J_neg, J_and, J_or, J_xor, J_shl, J_shr, J_div, J_i2b, J_i2l, J_l2i, J_lcm, J_max, J_min, J_nab, J_nao, rdA, rdF, rdL, wA_fold, wF_fold, wL_fold, wC_fold]
      obtain ⟨k12, w⟩ := w
      refine ⟨congrArg Prod.fst (ls268 C_h), ixs (ls268 C_h) k12 (by decide), ?_⟩
      exact w
    · have t5 : ¬ 0 ≤ x5 := (fun e => c4 ((Jle (by decide) k6).mpr e))
      replace w := w.2 t5
      obtain ⟨k13, w⟩ := w
      refine ⟨congrArg Prod.fst (ls268 C_h), ixs (ls268 C_h) k13 (by decide), ?_⟩
      exact w
  · have t3 : ¬ 0 ≤ lcm x2 (0 : Int64) := (fun e => c2 ((Jle (by decide) (rg_toInt _)).mpr e))
    replace w := w.2 t3
    refine ⟨(ls256 C_h), ?_⟩
    obtain ⟨k17, w⟩ := w
    obtain ⟨k18, w⟩ := w
    refine m243 (h := h) (r := x4) C_h (by omega) k17 k18 ?_
    refine ⟨_, rfl, ?_⟩
    try simp only [aI_wAL, fI_wAL, aL_wA, aL_wF, aI_wA_ne, aI_wF_ne, fI_wA_ne, fI_wF_ne, fI_wF_nk, aL_wAL_ne, J_sameA, J_sameF, aL_same, Nat.add_left_cancel_iff, Nat.add_eq_left, Nat.left_eq_add, not_false_eq_true, Nat.reduceEqDiff, Nat.reduceAdd, J_add, J_sub, J_mul, J_neg, J_and, J_or, J_xor, J_shl, J_shr, J_div, J_i2b, J_i2l, J_l2i, J_lcm, J_max, J_min, J_nab, J_nao, rdA, rdF, rdL, wA_fold, wF_fold, wL_fold, wC_fold]
    obtain ⟨k19, w⟩ := w
    refine ⟨congrArg Prod.fst (ls268 C_h), ixs (ls268 C_h) k19 (by decide), ?_⟩
    exact w
-- OutwardDoorsModel.wills(I)V at 86
set_option maxRecDepth 20000 in
set_option maxHeartbeats 4000000 in
theorem r234_86 {X : Cst} {d : Nat} {x1 : Int} {x2 : Int64} {x4 : Int} {x5 : Int} {h : AH} {Q : Post} (C_h : Lay h) (hd : 1 ≤ d)
  (w : (0 ≤ x1 ∧ x1 < 4) ∧ ((aI h 268 x1 < 0 → Q none (wA h 269 x1 (nao 0))) ∧ (¬ aI h 268 x1 < 0 → (0 ≤ (aI h 268 x1) ∧ (aI h 268 x1) < 14) ∧ (-2147483648 ≤ x4 ∧ x4 < 2147483648) ∧ ((¬ nr (aI h 266) (aI h 268 x1) = x4 → Q none (wA h 269 x1 (nao 0))) ∧ (nr (aI h 266) (aI h 268 x1) = x4 → Q none (wA h 269 x1 (nao 1))))))) :
    Ex X PG (d + 1) 234 86 [some (.ref 256), some (.int (J x1)), some (.long x2), none, some (.int (J x4)), some (.int (J x5))] [] h Q := by
  refine wpx_ok (cut := [23, 48, 86]) 20 d 234 86 _ _ _ _ ?_
  show hs h 256 = (0, 11) ∧ ∃ q1, hR h 256 25 = some q1 ∧ hs h 256 = (0, 11) ∧ ∃ q2, hR h 256 24 = some q2 ∧ (hs h q2).1 = 1 ∧ ix (J x1) (hs h q2).2 ∧ (((hI h q2 (Int32.toNatClampNeg (J x1))) < (J 0) → (((hs h q1).1 = 3 ∧ ix (J x1) (hs h q1).2 ∧ Q none (wI h q1 (Int32.toNatClampNeg (J x1)) (vp_nar .byte (J 0)))) ∨ ((hs h q1).1 = 4 ∧ ix (J x1) (hs h q1).2 ∧ Q none (wI h q1 (Int32.toNatClampNeg (J x1)) (vp_nar .boolean (J 0)))))) ∧ (¬ ((hI h q2 (Int32.toNatClampNeg (J x1))) < (J 0)) → hs h 256 = (0, 11) ∧ ∃ q6, hR h 256 24 = some q6 ∧ (hs h q6).1 = 1 ∧ ix (J x1) (hs h q6).2 ∧ hs h 256 = (0, 11) ∧ Ex X PG d 218 0 [some (.ref 256), some (.int (hI h q6 (Int32.toNatClampNeg (J x1))))] [] h (fun v7 h8 => ∃ r9, v7 = some (.int r9) ∧ ((¬ r9 = (J x4) → (((hs h8 q1).1 = 3 ∧ ix (J x1) (hs h8 q1).2 ∧ Q none (wI h8 q1 (Int32.toNatClampNeg (J x1)) (vp_nar .byte (J 0)))) ∨ ((hs h8 q1).1 = 4 ∧ ix (J x1) (hs h8 q1).2 ∧ Q none (wI h8 q1 (Int32.toNatClampNeg (J x1)) (vp_nar .boolean (J 0)))))) ∧ (¬ (¬ r9 = (J x4)) → (((hs h8 q1).1 = 3 ∧ ix (J x1) (hs h8 q1).2 ∧ Q none (wI h8 q1 (Int32.toNatClampNeg (J x1)) (vp_nar .byte (J 1)))) ∨ ((hs h8 q1).1 = 4 ∧ ix (J x1) (hs h8 q1).2 ∧ Q none (wI h8 q1 (Int32.toNatClampNeg (J x1)) (vp_nar .boolean (J 1))))))))))
  try simp only [aI_wAL, fI_wAL, aL_wA, aL_wF, aI_wA_ne, aI_wF_ne, fI_wA_ne, fI_wF_ne, fI_wF_nk, aL_wAL_ne, J_sameA, J_sameF, aL_same, Nat.add_left_cancel_iff, Nat.add_eq_left, Nat.left_eq_add, not_false_eq_true, Nat.reduceEqDiff, Nat.reduceAdd, J_add, J_sub, J_mul, J_neg, J_and, J_or, J_xor, J_shl, J_shr, J_div, J_i2b, J_i2l, J_l2i, J_lcm, J_max, J_min, J_nab, J_nao, rdA, rdF, rdL, wA_fold, wF_fold, wL_fold, wC_fold]
  refine ⟨(ls256 C_h), _, (lr256_25 C_h), ?_⟩
  refine ⟨(ls256 C_h), _, (lr256_24 C_h), ?_⟩
  obtain ⟨k3, w⟩ := w
  refine ⟨congrArg Prod.fst (ls268 C_h), ixs (ls268 C_h) k3 (by decide), ?_⟩
  refine ⟨fun c4 => ?_, fun c4 => ?_⟩
  · have t5 : aI h 268 x1 < 0 := ((Jlt (rg_toInt _) (by decide)).mp c4)
    replace w := w.1 t5
    refine Or.inr ⟨congrArg Prod.fst (ls269 C_h), ixs (ls269 C_h) k3 (by decide), ?_⟩
    exact w
  · have t5 : ¬ aI h 268 x1 < 0 := (fun e => c4 ((Jlt (rg_toInt _) (by decide)).mpr e))
    replace w := w.2 t5
    refine ⟨(ls256 C_h), _, (lr256_24 C_h), ?_⟩
    refine ⟨congrArg Prod.fst (ls268 C_h), ixs (ls268 C_h) k3 (by decide), ?_⟩
    refine ⟨(ls256 C_h), ?_⟩
    obtain ⟨k10, w⟩ := w
    refine m218 (h := h) (x := (aI h 268 x1)) C_h (by omega) k10 ?_
    refine ⟨_, rfl, ?_⟩
    try simp only [aI_wAL, fI_wAL, aL_wA, aL_wF, aI_wA_ne, aI_wF_ne, fI_wA_ne, fI_wF_ne, fI_wF_nk, aL_wAL_ne, J_sameA, J_sameF, aL_same, Nat.add_left_cancel_iff, Nat.add_eq_left, Nat.left_eq_add, not_false_eq_true, Nat.reduceEqDiff, Nat.reduceAdd, J_add, J_sub, J_mul, J_neg, J_and, J_or, J_xor, J_shl, J_shr, J_div, J_i2b, J_i2l, J_l2i, J_lcm, J_max, J_min, J_nab, J_nao, rdA, rdF, rdL, wA_fold, wF_fold, wL_fold, wC_fold]
    obtain ⟨k13, w⟩ := w
    refine ⟨fun c11 => ?_, fun c11 => ?_⟩
    · have t12 : ¬ nr (aI h 266) (aI h 268 x1) = x4 := (fun e => c11 ((Jeq (aI_rg _ _ _) k13).mpr e))
      replace w := w.1 t12
      refine Or.inr ⟨congrArg Prod.fst (ls269 C_h), ixs (ls269 C_h) k3 (by decide), ?_⟩
      exact w
    · have t12 : nr (aI h 266) (aI h 268 x1) = x4 := ((Jeq (aI_rg _ _ _) k13).mp (Classical.byContradiction c11))
      replace w := w.2 t12
      refine Or.inr ⟨congrArg Prod.fst (ls269 C_h), ixs (ls269 C_h) k3 (by decide), ?_⟩
      exact w
theorem q234_86 {X : Cst} {d : Nat} {p a : Int} {n : Int64} {z : Int} {h0 h : AH} {Q : Post} {D : Int} (C : Lay h) (hd : 1 ≤ d) (F : Fr TW h0 h) (W : WF 999 (aI h0 266)) (hp : 0 ≤ p ∧ p < aI h0 266 2) (ha : a = pS (aI h0 266) p 0)
    (hD : aI h 268 = uu_ (aI h0 268) p D) (h9 : aI h 269 = aI h0 269) (hb : D = -1 ∨ 0 ≤ D ∧ D < aI h0 266 1)
    (k : ∀ h', SH h0 h' → (Fr TW h0 h' ∧ aI h' 268 = uu_ (aI h0 268) p D ∧ aI h' 269 = uu_ (aI h0 269) p (bI (0 ≤ D ∧ nr (aI h0 266) D = pS (aI h0 266) p 0))) → Q none h') :
    Ex X PG (d + 1) 234 86 [some (.ref 256), some (.int (J p)), some (.long n), none, some (.int (J a)), some (.int (J z))] [] h Q := by
  have b := W.1
  unfold WFb at b
  have pp := W.2.1 p hp.1 hp.2
  have e := F.a 266 (fun k z => by unfold TW at z; omega)
  have fin : ∀ v, v = bI (0 ≤ D ∧ nr (aI h0 266) D = pS (aI h0 266) p 0) → Q none (wA h 269 p v) := by
    intro v hv
    have F2 : Fr TW h0 (wA h 269 p v) := F.wA (Or.inr (Or.inr (Or.inr (Or.inr (Or.inl rfl)))))
    refine k _ F2.1 ⟨F2, ?_, ?_⟩
    · rw [aI_wA_ne (by decide), hD]
    · rw [aI_wA (by rw [hv]; exact bI_rg _), h9, hv]
  refine r234_86 C (by omega) ?_
  rw [hD, uu_eq, e, nao_0, nao_1]
  refine ⟨by omega, fun c => fin _ (bI_neg (fun y => by omega)).symm, fun c => ⟨by omega, by omega, fun c2 => ?_, fun c2 => ?_⟩⟩
  · exact fin _ (bI_neg (fun y => c2 (by rw [ha]; exact y.2))).symm
  · exact fin _ (bI_pos ⟨by omega, by rw [← ha]; exact c2⟩).symm
theorem q234_23 {X : Cst} {d : Nat} {p : Int} {n : Int64} {l4 l5 : Option Value} {h0 h : AH} {Q : Post} (C : Lay h) (hd : 6 ≤ d) (F : Fr TW h0 h) (W : WF 999 (aI h0 266)) (hp : 0 ≤ p ∧ p < aI h0 266 2) (h8 : aI h 268 = aI h0 268) (h9 : aI h 269 = aI h0 269)
    (k : ∀ h', SH h0 h' → (Fr TW h0 h' ∧ aI h' 268 = uu_ (aI h0 268) p (wdoN (aI h0 266) n p) ∧ aI h' 269 = uu_ (aI h0 269) p (bI (0 ≤ wdoN (aI h0 266) n p ∧ nr (aI h0 266) (wdoN (aI h0 266) n p) = pS (aI h0 266) p 0))) → Q none h') :
    Ex X PG (d + 1) 234 23 [some (.ref 256), some (.int (J p)), some (.long n), none, l4, l5] [] h Q := by
  have b := W.1
  unfold WFb at b
  have pp := W.2.1 p hp.1 hp.2
  have wb := wdoN_b W n p
  have e := F.a 266 (fun k z => by unfold TW at z; omega)
  have st : ∀ (h' : AH), Fr TW h0 h' → aI h' 268 = aI h0 268 → aI h' 269 = aI h0 269 → ∀ z, (0 < n → z = stp (aI h0 266) (nightP (aI h0 266)) (pS (aI h0 266) p 0) (pS (aI h0 266) p 1)) → (¬ 0 < n → z = -1) → Ex X PG (d + 1) 234 48 [some (.ref 256), some (.int (J p)), some (.long n), none, some (.int (J (pS (aI h0 266) p 0))), some (.int (J z))] [] h' Q := by
    intro h' F' g8 g9 z z1 z2
    have e' := F'.a 266 (fun k z => by unfold TW at z; omega)
    have zb : -1 ≤ z ∧ z < 8 := by
      by_cases o : 0 < n
      · rw [z1 o]; rcases stp_b W (nightP (aI h0 266)) (pS (aI h0 266) p 0) (pS (aI h0 266) p 1) with q | q <;> omega
      · rw [z2 o]; decide
    have go : ∀ D, D = wdoN (aI h0 266) n p → Ex X PG (d + 1) 234 86 [some (.ref 256), some (.int (J p)), some (.long n), none, some (.int (J (pS (aI h0 266) p 0))), some (.int (J z))] [] (wA h' 268 p D) Q := by
      intro D hD
      subst hD
      refine q234_86 (C := F'.C (Lay_SH ⟨F.1.1.symm, F.1.2.symm⟩ C)) (by omega) (F'.wA (Or.inr (Or.inr (Or.inr (Or.inl rfl))))) W hp rfl ?_ ?_ wb k
      · rw [aI_wA (by omega), g8]
      · rw [aI_wA_ne (by decide), g9]
    refine r234_48 (F'.C (Lay_SH ⟨F.1.1.symm, F.1.2.symm⟩ C)) (by omega) ?_
    rw [e']
    have no : n < 0 → ¬ 0 < n := fun x y => by rw [Int64.lt_iff_toInt_lt] at x y; omega
    refine ⟨fun c => ⟨by omega, fun c2 => ⟨W, by omega, by omega, go _ ?_⟩, fun c2 => ⟨by omega, go _ ?_⟩⟩, fun c => ⟨W, by omega, by omega, go _ ?_⟩⟩
    · have c3 : ¬ n < 0 := fun y => by have := lcm_lt0.mpr y; omega
      have c4 : 0 < n := by
        by_cases o : 0 < n
        · exact o
        · have := z2 o; omega
      unfold wdoN
      rw [if_neg c3, if_pos c4, if_neg (by rw [← z1 c4]; omega), ← z1 c4]
    · have c3 : ¬ n < 0 := fun y => by have := lcm_lt0.mpr y; omega
      unfold wdoN
      rw [if_neg c3]
      by_cases o : 0 < n
      · rw [if_pos o, if_pos (by rw [← z1 o]; omega)]
      · rw [if_neg o]
    · have c3 : n < 0 := lcm_lt0.mp (by omega)
      unfold wdoN
      rw [if_pos c3]
  refine r234_23 C (by omega) ?_
  rw [e]
  refine ⟨by omega, fun c => ?_, fun c => ⟨W, hp, fun h8' s po => ?_⟩⟩
  · exact st h F h8 h9 _ (fun o => by have := lcm_gt0.mpr o; omega) (fun _ => rfl)
  · have F2 : Fr TW h0 h8' := F.tr (po.mo fun c k z => Or.inr (Or.inr (Or.inl z)))
    exact st h8' F2 (by rw [po.a 268 (fun _ => by decide), h8]) (by rw [po.a 269 (fun _ => by decide), h9]) _ (fun _ => rfl) (fun o => absurd (lcm_gt0.mp (by omega)) o)
theorem m234 {X : Cst} {d : Nat} {p : Int} {Rs : Int → Ru} {h : AH} {Q : Post} (C : Lay h) (hd : 9 ≤ d) (W : WF 999 (aI h 266)) (hp : 0 ≤ p ∧ p < aI h 266 2) (RO : RefOK h (fI h 256 21) Rs)
    (k : ∀ h', SH h h' → (Fr TW h h' ∧ aI h' 268 = uu_ (aI h 268) p (wdo (aI h 266) (fI h 256 21) Rs p) ∧ aI h' 269 = uu_ (aI h 269) p (bI (gO (aI h 266) (wdo (aI h 266) (fI h 256 21) Rs) p))) → Q none h') :
    Ex X PG d 234 0 [some (.ref 256), some (.int (J p)), none, none, none, none] [] h Q := by
  obtain ⟨d, rfl⟩ : ∃ e, d = e + 1 := ⟨d - 1, by omega⟩
  refine r234_0 C (by omega) ⟨fun c => ?_, fun c => ⟨W, hp, fun h4 s4 p4 => ?_⟩⟩
  · refine q234_23 C (by omega) Fr.rf W hp rfl rfl ?_
    have e : wv (aI h 266) (fI h 256 21) Rs p = 1 := by unfold wv; rw [if_pos c]
    rw [← e]
    exact k
  · have R := RO.resolve_left c
    have e21 : fI h4 256 21 = fI h 256 21 := p4.1.f 256 21 (by decide)
    have e8 := p4.1.a 258 (fun _ => by decide)
    have e0 := p4.1.a 260 (fun _ => by decide)
    have e1 := p4.1.a 261 (fun _ => by decide)
    rw [e21]
    refine m238 (R := Rs (fI h 256 21)) (p4.1.C C) (by omega) (by omega) R.2.1 (by rw [e8, e0, e1]; exact R.2.2) (fun h8 F8 => ?_)
    refine ⟨_, rfl, F8.1, ?_⟩
    have F4 : Fr TW h h4 := p4.1.mo fun c k z => by unfold TW; omega
    have F9 : Fr TW h h8 := F4.tr (F8.mo fun c k z => by unfold TS at z; unfold TW; omega)
    refine q234_23 (h0 := h) (F9.C C) (by omega) F9 W hp ?_ ?_ ?_
    · rw [F8.a 268 (fun k z => by unfold TS at z; omega), p4.1.a 268 (fun _ => by decide)]
    · rw [F8.a 269 (fun k z => by unfold TS at z; omega), p4.1.a 269 (fun _ => by decide)]
    · have e : wv (aI h 266) (fI h 256 21) Rs p = wl (Rs (fI h 256 21)) (aL h4 265) := by
        unfold wv; rw [if_neg c]
        exact wl_cong (fun k h1 h2 => (p4.2 k h1 h2).symm) R.2.1
      rw [← e]
      exact k
