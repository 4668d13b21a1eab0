/-! TEXT on the tape: runs of signs, tokens. -/
noncomputable def rnE (tp : Int → Int) (L : Int) (P : Int → Prop) : Nat → Int → Int
  | 0, i => i
  | n + 1, i => pI (i < L ∧ P (tp i)) (rnE tp L P n (i + 1)) i
/-- the end of the run of signs P from i on -/
noncomputable def rn (tp : Int → Int) (L : Int) (P : Int → Prop) (i : Int) : Int := rnE tp L P 401 i
section
variable {tp : Int → Int} {L : Int} {P : Int → Prop}
theorem rnE_b : ∀ (n : Nat) (i : Int), i ≤ rnE tp L P n i ∧ (rnE tp L P n i ≤ L ∨ rnE tp L P n i = i) ∧ rnE tp L P n i ≤ i + n ∧ ∀ k, i ≤ k → k < rnE tp L P n i → k < L ∧ P (tp k) := by
  intro n
  induction n with
  | zero => intro i; exact ⟨Int.le_refl _, Or.inr rfl, by show i ≤ i + 0; omega, fun k k0 k1 => by have : k < i := k1; omega⟩
  | succ n ih =>
    intro i
    unfold rnE
    by_cases c : i < L ∧ P (tp i)
    · rw [pI_pos c]
      have a := ih (i + 1)
      refine ⟨by omega, by omega, by omega, fun k k0 k1 => ?_⟩
      by_cases e : k = i
      · rw [e]; exact c
      · exact a.2.2.2 k (by omega) k1
    · rw [pI_neg c]
      exact ⟨Int.le_refl _, Or.inr rfl, by omega, fun k k0 k1 => by omega⟩
theorem rnE_e : ∀ (n : Nat) (i : Int), L < i + n → ¬ (rnE tp L P n i < L ∧ P (tp (rnE tp L P n i))) := by
  intro n
  induction n with
  | zero => intro i h z; have : i < L := z.1; omega
  | succ n ih =>
    intro i h
    unfold rnE
    by_cases c : i < L ∧ P (tp i)
    · rw [pI_pos c]; exact ih (i + 1) (by omega)
    · rw [pI_neg c]; exact c
/-- what a run's end is known by -/
theorem rn_is {i e : Int} (h0 : 0 ≤ i) (hL : L ≤ 400) (h1 : i ≤ e) (h2 : ∀ k, i ≤ k → k < e → k < L ∧ P (tp k)) (h3 : ¬ (e < L ∧ P (tp e))) : rn tp L P i = e := by
  have b := rnE_b (tp := tp) (L := L) (P := P) 401 i
  have z := rnE_e (tp := tp) (L := L) (P := P) 401 i (by omega)
  show rnE tp L P 401 i = e
  apply Classical.byContradiction
  intro n
  by_cases c : rnE tp L P 401 i < e
  · exact z (h2 _ b.1 c)
  · exact h3 (b.2.2.2 e h1 (by omega))
theorem rn_b {i : Int} (h0 : 0 ≤ i) : i ≤ rn tp L P i ∧ (rn tp L P i ≤ L ∨ rn tp L P i = i) ∧ ∀ k, i ≤ k → k < rn tp L P i → k < L ∧ P (tp k) := by
  have b := rnE_b (tp := tp) (L := L) (P := P) 401 i
  exact ⟨b.1, b.2.1, b.2.2.2⟩
theorem rn_e {i : Int} (h0 : 0 ≤ i) (hL : L ≤ 400) : ¬ (rn tp L P i < L ∧ P (tp (rn tp L P i))) := rnE_e 401 i (by omega)
theorem rn_no {i : Int} (h0 : 0 ≤ i) (hL : L ≤ 400) (n : ¬ (i < L ∧ P (tp i))) : rn tp L P i = i := rn_is h0 hL (Int.le_refl _) (fun k k0 k1 => by omega) n
theorem rn_s {i : Int} (h0 : 0 ≤ i) (hL : L ≤ 400) (c : i < L ∧ P (tp i)) : rn tp L P i = rn tp L P (i + 1) := by
  have b := rn_b (tp := tp) (L := L) (P := P) (i := i + 1) (by omega)
  refine rn_is h0 hL (by omega) (fun k k0 k1 => ?_) (rn_e (by omega) hL)
  by_cases e : k = i
  · rw [e]; exact c
  · exact b.2.2 k (by omega) k1
end
def spP (c : Int) : Prop := c = 32
def dgP (c : Int) : Prop := 48 ≤ c ∧ c ≤ 57
def leP (c : Int) : Prop := 97 ≤ c ∧ c ≤ 122
/-- the place of the next token -/
noncomputable def skp (tp : Int → Int) (L i : Int) : Int := rn tp L spP i
def nvN (tp : Int → Int) (i : Int) : Nat → Int
  | 0 => 0
  | n + 1 => nvN tp i n * 10 + tp (i + n) - 48
/-- a token's kind, end, value -/
noncomputable def tkK (tp : Int → Int) (L j : Int) : Int := pI (L ≤ j) 0 (pI (dgP (tp j)) 1 (pI (leP (tp j)) 2 3))
def wdn (tp : Int → Int) (L j : Int) : Prop := (tp j = 60 ∨ tp j = 62) ∧ j + 1 < L ∧ tp (j + 1) = 61
noncomputable def tkS (tp : Int → Int) (L j : Int) : Int := pI (L ≤ j) j (pI (dgP (tp j)) (rn tp L dgP j) (pI (leP (tp j)) (rn tp L leP j) (pI (wdn tp L j) (j + 2) (j + 1))))
noncomputable def numV (tp : Int → Int) (L j : Int) : Int := if rn tp L dgP j - j ≤ 5 then nvN tp j (rn tp L dgP j - j).toNat else -1
noncomputable def tkV (tp : Int → Int) (L j : Int) : Int := pI (L ≤ j) 0 (pI (dgP (tp j)) (numV tp L j) (pI (leP (tp j)) 0 (pI (wdn tp L j) (pI (tp j = 60) 256 257) (tp j))))
theorem nvN_b {tp : Int → Int} {i : Int} : ∀ n : Nat, n ≤ 5 → (∀ k : Nat, k < n → dgP (tp (i + k))) → 0 ≤ nvN tp i n ∧ nvN tp i n < 10 ^ n := by
  intro n
  induction n with
  | zero => intro _ _; exact ⟨Int.le_refl 0, by rw [Int.pow_zero]; show (0 : Int) < 1; decide⟩
  | succ n ih =>
    intro hn h
    have a := ih (by omega) (fun k hk => h k (by omega))
    have d := h n (by omega)
    unfold dgP at d
    show 0 ≤ nvN tp i n * 10 + tp (i + n) - 48 ∧ nvN tp i n * 10 + tp (i + n) - 48 < 10 ^ (n + 1)
    rw [Int.pow_succ]
    omega
theorem numV_b {tp : Int → Int} {L j : Int} (h0 : 0 ≤ j) : -1 ≤ numV tp L j ∧ numV tp L j < 100000 := by
  unfold numV
  have b := rn_b (tp := tp) (L := L) (P := dgP) (i := j) h0
  by_cases c : rn tp L dgP j - j ≤ 5
  · rw [if_pos c]
    have a := nvN_b (tp := tp) (i := j) (rn tp L dgP j - j).toNat (by omega) (fun k hk => (b.2.2 (j + k) (by omega) (by omega)).2)
    have p : (10 : Int) ^ (rn tp L dgP j - j).toNat ≤ 100000 := by
      have : (rn tp L dgP j - j).toNat = 0 ∨ (rn tp L dgP j - j).toNat = 1 ∨ (rn tp L dgP j - j).toNat = 2 ∨ (rn tp L dgP j - j).toNat = 3 ∨ (rn tp L dgP j - j).toNat = 4 ∨ (rn tp L dgP j - j).toNat = 5 := by omega
      rcases this with e | e | e | e | e | e <;> rw [e] <;> decide
    omega
  · rw [if_neg c]; decide
/-- the class's tape at the token j -/
def TkC (h : AH) (L j f : Int) : Prop := (fI h 1 1 = L ∧ 0 ≤ L ∧ L ≤ 400) ∧ (0 ≤ j ∧ j ≤ L) ∧ fI h 1 3 = j ∧ fI h 1 2 = tkK (aI h 2) L j ∧ fI h 1 4 = tkS (aI h 2) L j ∧ fI h 1 5 = tkV (aI h 2) L j ∧ fI h 1 6 = f
def TTk (c k : Nat) : Prop := c = 1 ∧ (k = 2 ∨ k = 3 ∨ k = 4 ∨ k = 5)
-- OutwardDoors$Tape.isWithin(III)Z at 0
set_option maxRecDepth 20000 in
set_option maxHeartbeats 4000000 in
theorem r25_0 {X : Cst} {d : Nat} {x0 : Int} {x1 : Int} {x2 : Int} {h : AH} {Q : Post} (C_h : Lay h)
  (w : (-2147483648 ≤ x0 ∧ x0 < 2147483648) ∧ (-2147483648 ≤ x1 ∧ x1 < 2147483648) ∧ ((x0 < x1 → Q (some (.int (J 0))) h) ∧ (¬ x0 < x1 → (-2147483648 ≤ x2 ∧ x2 < 2147483648) ∧ ((x2 < x0 → Q (some (.int (J 0))) h) ∧ (¬ x2 < x0 → Q (some (.int (J 1))) h))))) :
    Ex X PG (d + 1) 25 0 [some (.int (J x0)), some (.int (J x1)), some (.int (J x2))] [] h Q := by
  refine wpx_ok (cut := []) 9 d 25 0 _ _ _ _ ?_
  show (((J x0) < (J x1) → (J 0 = J 0 ∨ J 0 = J 1) ∧ Q (some (.int (J 0))) h) ∧ (¬ ((J x0) < (J x1)) → (((J x2) < (J x0) → (J 0 = J 0 ∨ J 0 = J 1) ∧ Q (some (.int (J 0))) h) ∧ (¬ ((J x2) < (J x0)) → (J 1 = J 0 ∨ J 1 = J 1) ∧ Q (some (.int (J 1))) h))))
  try simp only [aI_wAL, fI_wAL, aL_wA, aL_wF, aI_wA_ne, aI_wF_ne, fI_wA_ne, fI_wF_ne, fI_wF_nk, aL_wAL_ne, J_sameA, J_sameF, aL_same, Nat.add_left_cancel_iff, Nat.add_eq_left, Nat.left_eq_add, not_false_eq_true, Nat.reduceEqDiff, Nat.reduceAdd, J_add, J_sub, J_mul, J_neg, J_and, J_or, J_xor, J_shl, J_shr, J_div, J_i2b, J_i2l, J_l2i, J_lcm, J_max, J_min, J_nab, J_nao, rdA, rdF, rdL, wA_fold, wF_fold, wL_fold, wC_fold]
  obtain ⟨k3, w⟩ := w
  obtain ⟨k4, w⟩ := w
  refine ⟨fun c1 => ?_, fun c1 => ?_⟩
  · have t2 : x0 < x1 := ((Jlt k3 k4).mp c1)
    replace w := w.1 t2
    exact ⟨(Or.inl (by trivial)), w⟩
  · have t2 : ¬ x0 < x1 := (fun e => c1 ((Jlt k3 k4).mpr e))
    replace w := w.2 t2
    obtain ⟨k7, w⟩ := w
    refine ⟨fun c5 => ?_, fun c5 => ?_⟩
    · have t6 : x2 < x0 := ((Jlt k7 k3).mp c5)
      replace w := w.1 t6
      exact ⟨(Or.inl (by trivial)), w⟩
    · have t6 : ¬ x2 < x0 := (fun e => c5 ((Jlt k7 k3).mpr e))
      replace w := w.2 t6
      exact ⟨(Or.inr (by trivial)), w⟩
theorem m25 {X : Cst} {d : Nat} {x a b : Int} {h : AH} {Q : Post} (C : Lay h) (hd : 1 ≤ d) (g1 : -2147483648 ≤ x ∧ x < 2147483648) (g2 : -2147483648 ≤ a ∧ a < 2147483648) (g3 : -2147483648 ≤ b ∧ b < 2147483648) (k : Q (some (.int (J (bI (a ≤ x ∧ x ≤ b))))) h) : Ex X PG d 25 0 [some (.int (J x)), some (.int (J a)), some (.int (J b))] [] h Q := by
  obtain ⟨d, rfl⟩ : ∃ e, d = e + 1 := ⟨d - 1, by omega⟩
  refine r25_0 C ⟨g1, g2, fun c => ?_, fun c => ⟨g3, fun c2 => ?_, fun c2 => ?_⟩⟩
  · rw [bI_neg (by omega)] at k; exact k
  · rw [bI_neg (by omega)] at k; exact k
  · rw [bI_pos (by omega)] at k; exact k
-- OutwardDoors$Tape.behind(III)I at 0
set_option maxRecDepth 20000 in
set_option maxHeartbeats 4000000 in
theorem r26_0 {X : Cst} {d : Nat} {x1 : Int} {x2 : Int} {x3 : Int} {h : AH} {Q : Post} (C_h : Lay h)
  (w : Ex X PG (d + 1) 26 3 [some (.ref 1), some (.int (J x1)), some (.int (J x2)), some (.int (J x3)), some (.int (J x1))] [] h Q) :
    Ex X PG (d + 1) 26 0 [some (.ref 1), some (.int (J x1)), some (.int (J x2)), some (.int (J x3)), none] [] h Q := by
  refine wpx_ok (cut := [3]) 2 d 26 0 _ _ _ _ ?_
  show Ex X PG (d + 1) 26 3 [some (.ref 1), some (.int (J x1)), some (.int (J x2)), some (.int (J x3)), some (.int (J x1))] [] h Q
  try simp only [aI_wAL, fI_wAL, aL_wA, aL_wF, aI_wA_ne, aI_wF_ne, fI_wA_ne, fI_wF_ne, fI_wF_nk, aL_wAL_ne, J_sameA, J_sameF, aL_same, Nat.add_left_cancel_iff, Nat.add_eq_left, Nat.left_eq_add, not_false_eq_true, Nat.reduceEqDiff, Nat.reduceAdd, J_add, J_sub, J_mul, J_neg, J_and, J_or, J_xor, J_shl, J_shr, J_div, J_i2b, J_i2l, J_l2i, J_lcm, J_max, J_min, J_nab, J_nao, rdA, rdF, rdL, wA_fold, wF_fold, wL_fold, wC_fold]
  exact w
-- OutwardDoors$Tape.behind(III)I at 3
set_option maxRecDepth 20000 in
set_option maxHeartbeats 4000000 in
theorem r26_3 {X : Cst} {d : Nat} {x1 : Int} {x2 : Int} {x3 : Int} {x4 : Int} {h : AH} {Q : Post} (C_h : Lay h)
  (w : (-2147483648 ≤ x4 ∧ x4 < 2147483648) ∧ ((fI h 1 1 ≤ x4 → Q (some (.int (J x4))) h) ∧ (¬ fI h 1 1 ≤ x4 → (0 ≤ x4 ∧ x4 < 400) ∧ (-2147483648 ≤ x2 ∧ x2 < 2147483648) ∧ ((aI h 2 x4 < x2 → Q (some (.int (J x4))) h) ∧ (¬ aI h 2 x4 < x2 → (-2147483648 ≤ x3 ∧ x3 < 2147483648) ∧ ((x3 < aI h 2 x4 → Q (some (.int (J x4))) h) ∧ (¬ x3 < aI h 2 x4 → Ex X PG (d + 1) 26 3 [some (.ref 1), some (.int (J x1)), some (.int (J x2)), some (.int (J x3)), some (.int (J (x4 + 1)))] [] h Q))))))) :
    Ex X PG (d + 1) 26 3 [some (.ref 1), some (.int (J x1)), some (.int (J x2)), some (.int (J x3)), some (.int (J x4))] [] h Q := by
  refine wpx_ok (cut := [3]) 18 d 26 3 _ _ _ _ ?_
  show hs h 1 = (0, 8) ∧ (((hF h 1 1) ≤ (J x4) → Q (some (.int (J x4))) h) ∧ (¬ ((hF h 1 1) ≤ (J x4)) → hs h 1 = (0, 8) ∧ ∃ q4, hR h 1 0 = some q4 ∧ ((hs h q4).1 = 3 ∨ (hs h q4).1 = 4) ∧ ix (J x4) (hs h q4).2 ∧ (((hI h q4 (Int32.toNatClampNeg (J x4))) < (J x2) → Q (some (.int (J x4))) h) ∧ (¬ ((hI h q4 (Int32.toNatClampNeg (J x4))) < (J x2)) → hs h 1 = (0, 8) ∧ ∃ q9, hR h 1 0 = some q9 ∧ ((hs h q9).1 = 3 ∨ (hs h q9).1 = 4) ∧ ix (J x4) (hs h q9).2 ∧ (((J x3) < (hI h q9 (Int32.toNatClampNeg (J x4))) → Q (some (.int (J x4))) h) ∧ (¬ ((J x3) < (hI h q9 (Int32.toNatClampNeg (J x4)))) → Ex X PG (d + 1) 26 3 [some (.ref 1), some (.int (J x1)), some (.int (J x2)), some (.int (J x3)), some (.int ((J x4) + (J 1)))] [] h Q))))))
  try simp only [aI_wAL, fI_wAL, aL_wA, aL_wF, aI_wA_ne, aI_wF_ne, fI_wA_ne, fI_wF_ne, fI_wF_nk, aL_wAL_ne, J_sameA, J_sameF, aL_same, Nat.add_left_cancel_iff, Nat.add_eq_left, Nat.left_eq_add, not_false_eq_true, Nat.reduceEqDiff, Nat.reduceAdd, J_add, J_sub, J_mul, J_neg, J_and, J_or, J_xor, J_shl, J_shr, J_div, J_i2b, J_i2l, J_l2i, J_lcm, J_max, J_min, J_nab, J_nao, rdA, rdF, rdL, wA_fold, wF_fold, wL_fold, wC_fold]
  refine ⟨(ls1 C_h), ?_⟩
  obtain ⟨k3, w⟩ := w
  refine ⟨fun c1 => ?_, fun c1 => ?_⟩
  · have t2 : fI h 1 1 ≤ x4 := ((Jle (rg_toInt _) k3).mp c1)
    replace w := w.1 t2
    exact w
  · have t2 : ¬ fI h 1 1 ≤ x4 := (fun e => c1 ((Jle (rg_toInt _) k3).mpr e))
    replace w := w.2 t2
    refine ⟨(ls1 C_h), _, (lr1_0 C_h), ?_⟩
    obtain ⟨k5, w⟩ := w
    refine ⟨Or.inl (congrArg Prod.fst (ls2 C_h)), ixs (ls2 C_h) k5 (by decide), ?_⟩
    obtain ⟨k8, w⟩ := w
    refine ⟨fun c6 => ?_, fun c6 => ?_⟩
    · have t7 : aI h 2 x4 < x2 := ((Jlt (rg_toInt _) k8).mp c6)
      replace w := w.1 t7
      exact w
    · have t7 : ¬ aI h 2 x4 < x2 := (fun e => c6 ((Jlt (rg_toInt _) k8).mpr e))
      replace w := w.2 t7
      refine ⟨(ls1 C_h), _, (lr1_0 C_h), ?_⟩
      refine ⟨Or.inl (congrArg Prod.fst (ls2 C_h)), ixs (ls2 C_h) k5 (by decide), ?_⟩
      obtain ⟨k12, w⟩ := w
      refine ⟨fun c10 => ?_, fun c10 => ?_⟩
      · have t11 : x3 < aI h 2 x4 := ((Jlt k12 (rg_toInt _)).mp c10)
        replace w := w.1 t11
        exact w
      · have t11 : ¬ x3 < aI h 2 x4 := (fun e => c10 ((Jlt k12 (rg_toInt _)).mpr e))
        replace w := w.2 t11
        exact w
theorem m26 {X : Cst} {d : Nat} {i a b L : Int} {h : AH} {Q : Post} (C : Lay h) (hd : 1 ≤ d) (eL : fI h 1 1 = L) (hL : L ≤ 400) (i0 : 0 ≤ i ∧ i ≤ 400) (g2 : -2147483648 ≤ a ∧ a < 2147483648) (g3 : -2147483648 ≤ b ∧ b < 2147483648) (k : Q (some (.int (J (rn (aI h 2) L (fun c => a ≤ c ∧ c ≤ b) i)))) h) : Ex X PG d 26 0 [some (.ref 1), some (.int (J i)), some (.int (J a)), some (.int (J b)), none] [] h Q := by
  obtain ⟨d, rfl⟩ : ∃ e, d = e + 1 := ⟨d - 1, by omega⟩
  have lp : ∀ (z : Nat) (j : Int), 401 - j = z → 0 ≤ j → j ≤ 400 → rn (aI h 2) L (fun c => a ≤ c ∧ c ≤ b) j = rn (aI h 2) L (fun c => a ≤ c ∧ c ≤ b) i → Ex X PG (d + 1) 26 3 [some (.ref 1), some (.int (J i)), some (.int (J a)), some (.int (J b)), some (.int (J j))] [] h Q := by
    intro z
    induction z with
    | zero => intro j e; omega
    | succ z ih =>
      intro j e j0 j1 er
      have st : ¬ (j < L ∧ (a ≤ aI h 2 j ∧ aI h 2 j ≤ b)) → Q (some (.int (J j))) h := by
        intro n
        rw [← er, rn_no j0 hL n] at k
        exact k
      refine r26_3 C ?_
      rw [eL]
      refine ⟨by omega, fun c => st (fun z => by omega), fun c => ⟨by omega, g2, fun c2 => st (fun z => by omega), fun c2 => ⟨g3, fun c3 => st (fun z => by omega), fun c3 => ?_⟩⟩⟩
      refine ih (j + 1) (by omega) (by omega) (by omega) ?_
      rw [← er]
      exact (rn_s j0 hL (P := fun c => a ≤ c ∧ c ≤ b) ⟨by omega, by omega, by omega⟩).symm
  refine r26_0 C ?_
  exact lp (401 - i).toNat i (by omega) i0.1 i0.2 rfl
-- OutwardDoors$Tape.numberIn(II)I at 0
set_option maxRecDepth 20000 in
set_option maxHeartbeats 4000000 in
theorem r27_0 {X : Cst} {d : Nat} {x1 : Int} {x2 : Int} {h : AH} {Q : Post} (C_h : Lay h)
  (w : Ex X PG (d + 1) 27 5 [some (.ref 1), some (.int (J x1)), some (.int (J x2)), some (.int (J 0)), some (.int (J x1))] [] h Q) :
    Ex X PG (d + 1) 27 0 [some (.ref 1), some (.int (J x1)), some (.int (J x2)), none, none] [] h Q := by
  refine wpx_ok (cut := [5]) 4 d 27 0 _ _ _ _ ?_
  show Ex X PG (d + 1) 27 5 [some (.ref 1), some (.int (J x1)), some (.int (J x2)), some (.int (J 0)), some (.int (J x1))] [] h Q
  try simp only [aI_wAL, fI_wAL, aL_wA, aL_wF, aI_wA_ne, aI_wF_ne, fI_wA_ne, fI_wF_ne, fI_wF_nk, aL_wAL_ne, J_sameA, J_sameF, aL_same, Nat.add_left_cancel_iff, Nat.add_eq_left, Nat.left_eq_add, not_false_eq_true, Nat.reduceEqDiff, Nat.reduceAdd, J_add, J_sub, J_mul, J_neg, J_and, J_or, J_xor, J_shl, J_shr, J_div, J_i2b, J_i2l, J_l2i, J_lcm, J_max, J_min, J_nab, J_nao, rdA, rdF, rdL, wA_fold, wF_fold, wL_fold, wC_fold]
  exact w
-- OutwardDoors$Tape.numberIn(II)I at 5
set_option maxRecDepth 20000 in
set_option maxHeartbeats 4000000 in
theorem r27_5 {X : Cst} {d : Nat} {x1 : Int} {x2 : Int} {x3 : Int} {x4 : Int} {h : AH} {Q : Post} (C_h : Lay h)
  (w : (-2147483648 ≤ x4 ∧ x4 < 2147483648) ∧ (-2147483648 ≤ x2 ∧ x2 < 2147483648) ∧ ((x2 ≤ x4 → Q (some (.int (J x3))) h) ∧ (¬ x2 ≤ x4 → (0 ≤ x4 ∧ x4 < 400) ∧ Ex X PG (d + 1) 27 5 [some (.ref 1), some (.int (J x1)), some (.int (J x2)), some (.int (J (((x3 * 10) + (aI h 2 x4)) - 48))), some (.int (J (x4 + 1)))] [] h Q))) :
    Ex X PG (d + 1) 27 5 [some (.ref 1), some (.int (J x1)), some (.int (J x2)), some (.int (J x3)), some (.int (J x4))] [] h Q := by
  refine wpx_ok (cut := [5]) 16 d 27 5 _ _ _ _ ?_
  show (((J x2) ≤ (J x4) → Q (some (.int (J x3))) h) ∧ (¬ ((J x2) ≤ (J x4)) → hs h 1 = (0, 8) ∧ ∃ q5, hR h 1 0 = some q5 ∧ ((hs h q5).1 = 3 ∨ (hs h q5).1 = 4) ∧ ix (J x4) (hs h q5).2 ∧ Ex X PG (d + 1) 27 5 [some (.ref 1), some (.int (J x1)), some (.int (J x2)), some (.int ((((J x3) * (J 10)) + (hI h q5 (Int32.toNatClampNeg (J x4)))) - (J 48))), some (.int ((J x4) + (J 1)))] [] h Q))
  try simp only [aI_wAL, fI_wAL, aL_wA, aL_wF, aI_wA_ne, aI_wF_ne, fI_wA_ne, fI_wF_ne, fI_wF_nk, aL_wAL_ne, J_sameA, J_sameF, aL_same, Nat.add_left_cancel_iff, Nat.add_eq_left, Nat.left_eq_add, not_false_eq_true, Nat.reduceEqDiff, Nat.reduceAdd, J_add, J_sub, J_mul, J_neg, J_and, J_or, J_xor, J_shl, J_shr, J_div, J_i2b, J_i2l, J_l2i, J_lcm, J_max, J_min, J_nab, J_nao, rdA, rdF, rdL, wA_fold, wF_fold, wL_fold, wC_fold]
  obtain ⟨k3, w⟩ := w
  obtain ⟨k4, w⟩ := w
  refine ⟨fun c1 => ?_, fun c1 => ?_⟩
  · have t2 : x2 ≤ x4 := ((Jle k4 k3).mp c1)
    replace w := w.1 t2
    exact w
  · have t2 : ¬ x2 ≤ x4 := (fun e => c1 ((Jle k4 k3).mpr e))
    replace w := w.2 t2
    refine ⟨(ls1 C_h), _, (lr1_0 C_h), ?_⟩
    obtain ⟨k6, w⟩ := w
    refine ⟨Or.inl (congrArg Prod.fst (ls2 C_h)), ixs (ls2 C_h) k6 (by decide), ?_⟩
    exact w
theorem m27 {X : Cst} {d : Nat} {i e : Int} {h : AH} {Q : Post} (C : Lay h) (hd : 1 ≤ d) (i0 : 0 ≤ i ∧ i ≤ e) (e1 : e ≤ 400) (k : Q (some (.int (J (nvN (aI h 2) i (e - i).toNat)))) h) : Ex X PG d 27 0 [some (.ref 1), some (.int (J i)), some (.int (J e)), none, none] [] h Q := by
  obtain ⟨d, rfl⟩ : ∃ e, d = e + 1 := ⟨d - 1, by omega⟩
  have lp : ∀ (z n : Nat), e - i - n = z → Ex X PG (d + 1) 27 5 [some (.ref 1), some (.int (J i)), some (.int (J e)), some (.int (J (nvN (aI h 2) i n))), some (.int (J (i + n)))] [] h Q := by
    intro z
    induction z with
    | zero =>
      intro n ez
      refine r27_5 C ⟨by omega, by omega, fun _ => ?_, fun y => absurd (by omega) y⟩
      rw [show (e - i).toNat = n by omega] at k; exact k
    | succ z ih =>
      intro n ez
      refine r27_5 C ⟨by omega, by omega, fun y => absurd y (by omega), fun _ => ⟨by omega, ?_⟩⟩
      have := ih (n + 1) (by omega)
      rw [show i + ((n + 1 : Nat) : Int) = i + n + 1 by omega] at this
      exact this
  refine r27_0 C ?_
  have := lp (e - i).toNat 0 (by omega)
  rw [show i + ((0 : Nat) : Int) = i by omega] at this
  exact this
