/-! TEXT on the tape: runs of signs, tokens. -/
noncomputable def rnE (tp : Int → Int) (L : Int) (P : Int → Prop) : Nat → Int → Int
  | 0, i => i
  | n + 1, i => pI (i < L ∧ P (tp i)) (rnE tp L P n (i + 1)) i
/-- the end of the run of signs P from i on -/
noncomputable def rn (tp : Int → Int) (L : Int) (P : Int → Prop) (i : Int) : Int := rnE tp L P 401 i
section
variable {tp : Int → Int} {L : Int} {P : Int → Prop}
theorem rnE_b : ∀ (n : Nat) (i : Int), i ≤ rnE tp L P n i ∧ (rnE tp L P n i ≤ L ∨ rnE tp L P n i = i) ∧ rnE tp L P n i ≤ i + n ∧ ∀ k, i ≤ k → k < rnE tp L P n i → k < L ∧ P (tp k) := by
  intro n
  induction n with
  | zero => intro i; exact ⟨Int.le_refl _, Or.inr rfl, by show i ≤ i + 0; omega, fun k k0 k1 => by have : k < i := k1; omega⟩
  | succ n ih =>
    intro i
    unfold rnE
    by_cases c : i < L ∧ P (tp i)
    · rw [pI_pos c]
      have a := ih (i + 1)
      refine ⟨by omega, by omega, by omega, fun k k0 k1 => ?_⟩
      by_cases e : k = i
      · rw [e]; exact c
      · exact a.2.2.2 k (by omega) k1
    · rw [pI_neg c]
      exact ⟨Int.le_refl _, Or.inr rfl, by omega, fun k k0 k1 => by omega⟩
theorem rnE_e : ∀ (n : Nat) (i : Int), L < i + n → ¬ (rnE tp L P n i < L ∧ P (tp (rnE tp L P n i))) := by
  intro n
  induction n with
  | zero => intro i h z; have : i < L := z.1; omega
  | succ n ih =>
    intro i h
    unfold rnE
    by_cases c : i < L ∧ P (tp i)
    · rw [pI_pos c]; exact ih (i + 1) (by omega)
    · rw [pI_neg c]; exact c
/-- what a run's end is known by -/
theorem rn_is {i e : Int} (h0 : 0 ≤ i) (hL : L ≤ 400) (h1 : i ≤ e) (h2 : ∀ k, i ≤ k → k < e → k < L ∧ P (tp k)) (h3 : ¬ (e < L ∧ P (tp e))) : rn tp L P i = e := by
  have b := rnE_b (tp := tp) (L := L) (P := P) 401 i
  have z := rnE_e (tp := tp) (L := L) (P := P) 401 i (by omega)
  show rnE tp L P 401 i = e
  apply Classical.byContradiction
  intro n
  by_cases c : rnE tp L P 401 i < e
  · exact z (h2 _ b.1 c)
  · exact h3 (b.2.2.2 e h1 (by omega))
theorem rn_b {i : Int} (h0 : 0 ≤ i) : i ≤ rn tp L P i ∧ (rn tp L P i ≤ L ∨ rn tp L P i = i) ∧ ∀ k, i ≤ k → k < rn tp L P i → k < L ∧ P (tp k) := by
  have b := rnE_b (tp := tp) (L := L) (P := P) 401 i
  exact ⟨b.1, b.2.1, b.2.2.2⟩
theorem rn_e {i : Int} (h0 : 0 ≤ i) (hL : L ≤ 400) : ¬ (rn tp L P i < L ∧ P (tp (rn tp L P i))) := rnE_e 401 i (by omega)
theorem rn_no {i : Int} (h0 : 0 ≤ i) (hL : L ≤ 400) (n : ¬ (i < L ∧ P (tp i))) : rn tp L P i = i := rn_is h0 hL (Int.le_refl _) (fun k k0 k1 => by omega) n
theorem rn_s {i : Int} (h0 : 0 ≤ i) (hL : L ≤ 400) (c : i < L ∧ P (tp i)) : rn tp L P i = rn tp L P (i + 1) := by
  have b := rn_b (tp := tp) (L := L) (P := P) (i := i + 1) (by omega)
  refine rn_is h0 hL (by omega) (fun k k0 k1 => ?_) (rn_e (by omega) hL)
  by_cases e : k = i
  · rw [e]; exact c
  · exact b.2.2 k (by omega) k1
end
def spP (c : Int) : Prop := c = 32
def dgP (c : Int) : Prop := 48 ≤ c ∧ c ≤ 57
def leP (c : Int) : Prop := 97 ≤ c ∧ c ≤ 122
/-- the place of the next token -/
noncomputable def skp (tp : Int → Int) (L i : Int) : Int := rn tp L spP i
def nvN (tp : Int → Int) (i : Int) : Nat → Int
  | 0 => 0
  | n + 1 => nvN tp i n * 10 + tp (i + n) - 48
/-- a token's kind, end, value -/
noncomputable def tkK (tp : Int → Int) (L j : Int) : Int := pI (L ≤ j) 0 (pI (dgP (tp j)) 1 (pI (leP (tp j)) 2 3))
def wdn (tp : Int → Int) (L j : Int) : Prop := (tp j = 60 ∨ tp j = 62) ∧ j + 1 < L ∧ tp (j + 1) = 61
noncomputable def tkS (tp : Int → Int) (L j : Int) : Int := pI (L ≤ j) j (pI (dgP (tp j)) (rn tp L dgP j) (pI (leP (tp j)) (rn tp L leP j) (pI (wdn tp L j) (j + 2) (j + 1))))
noncomputable def numV (tp : Int → Int) (L j : Int) : Int := if rn tp L dgP j - j ≤ 5 then nvN tp j (rn tp L dgP j - j).toNat else -1
noncomputable def tkV (tp : Int → Int) (L j : Int) : Int := pI (L ≤ j) 0 (pI (dgP (tp j)) (numV tp L j) (pI (leP (tp j)) 0 (pI (wdn tp L j) (pI (tp j = 60) 256 257) (tp j))))
theorem nvN_b {tp : Int → Int} {i : Int} : ∀ n : Nat, n ≤ 5 → (∀ k : Nat, k < n → dgP (tp (i + k))) → 0 ≤ nvN tp i n ∧ nvN tp i n < 10 ^ n := by
  intro n
  induction n with
  | zero => intro _ _; exact ⟨Int.le_refl 0, by rw [Int.pow_zero]; show (0 : Int) < 1; decide⟩
  | succ n ih =>
    intro hn h
    have a := ih (by omega) (fun k hk => h k (by omega))
    have d := h n (by omega)
    unfold dgP at d
    show 0 ≤ nvN tp i n * 10 + tp (i + n) - 48 ∧ nvN tp i n * 10 + tp (i + n) - 48 < 10 ^ (n + 1)
    rw [Int.pow_succ]
    omega
theorem numV_b {tp : Int → Int} {L j : Int} (h0 : 0 ≤ j) : -1 ≤ numV tp L j ∧ numV tp L j < 100000 := by
  unfold numV
  have b := rn_b (tp := tp) (L := L) (P := dgP) (i := j) h0
  by_cases c : rn tp L dgP j - j ≤ 5
  · rw [if_pos c]
    have a := nvN_b (tp := tp) (i := j) (rn tp L dgP j - j).toNat (by omega) (fun k hk => (b.2.2 (j + k) (by omega) (by omega)).2)
    have p : (10 : Int) ^ (rn tp L dgP j - j).toNat ≤ 100000 := by
      have : (rn tp L dgP j - j).toNat = 0 ∨ (rn tp L dgP j - j).toNat = 1 ∨ (rn tp L dgP j - j).toNat = 2 ∨ (rn tp L dgP j - j).toNat = 3 ∨ (rn tp L dgP j - j).toNat = 4 ∨ (rn tp L dgP j - j).toNat = 5 := by omega
      rcases this with e | e | e | e | e | e <;> rw [e] <;> decide
    omega
  · rw [if_neg c]; decide
/-- bytes -/
def BT (tp : Int → Int) : Prop := ∀ i : Int, 0 ≤ i → i < 400 → -128 ≤ tp i ∧ tp i < 128
/-- the class's tape at the token j -/
def TkC (h : AH) (tp : Int → Int) (L j f : Int) : Prop := aI h 2 = tp ∧ (fI h 1 1 = L ∧ 0 ≤ L ∧ L ≤ 400) ∧ (0 ≤ j ∧ j ≤ L) ∧ fI h 1 3 = j ∧ fI h 1 2 = tkK tp L j ∧ fI h 1 4 = tkS tp L j ∧ fI h 1 5 = tkV tp L j ∧ fI h 1 6 = f
def TTk (c k : Nat) : Prop := c = 1 ∧ (k = 2 ∨ k = 3 ∨ k = 4 ∨ k = 5)
-- OutwardDoors$Tape.isWithin(III)Z at 0
set_option maxRecDepth 20000 in
set_option maxHeartbeats 4000000 in
theorem r25_0 {X : Cst} {d : Nat} {x0 : Int} {x1 : Int} {x2 : Int} {h : AH} {Q : Post} (C_h : Lay h)
  (w : (-2147483648 ≤ x0 ∧ x0 < 2147483648) ∧ (-2147483648 ≤ x1 ∧ x1 < 2147483648) ∧ ((x0 < x1 → Q (some (.int (J 0))) h) ∧ (¬ x0 < x1 → (-2147483648 ≤ x2 ∧ x2 < 2147483648) ∧ ((x2 < x0 → Q (some (.int (J 0))) h) ∧ (¬ x2 < x0 → Q (some (.int (J 1))) h))))) :
    Ex X PG (d + 1) 25 0 [some (.int (J x0)), some (.int (J x1)), some (.int (J x2))] [] h Q := by
  refine wpx_ok (cut := []) 9 d 25 0 _ _ _ _ ?_
  show (((J x0) < (J x1) → (J 0 = J 0 ∨ J 0 = J 1) ∧ Q (some (.int (J 0))) h) ∧ (¬ ((J x0) < (J x1)) → (((J x2) < (J x0) → (J 0 = J 0 ∨ J 0 = J 1) ∧ Q (some (.int (J 0))) h) ∧ (¬ ((J x2) < (J x0)) → (J 1 = J 0 ∨ J 1 = J 1) ∧ Q (some (.int (J 1))) h))))
  try simp only [aI_wAL, fI_wAL, aL_wA, aL_wF, aI_wA_ne, aI_wF_ne, fI_wA_ne, fI_wF_ne, fI_wF_nk, aL_wAL_ne, J_sameA, J_sameF, aL_same, Nat.add_left_cancel_iff, Nat.add_eq_left, Nat.left_eq_add, not_false_eq_true, Nat.reduceEqDiff, Nat.reduceAdd, J_add, J_sub, J_mul, J_neg, J_and, J_or, J_xor, J_shl, J_shr, J_div, J_i2b, J_i2l, J_l2i, J_lcm, J_max, J_min, J_nab, J_nao, rdA, rdF, rdL, wA_fold, wF_fold, wL_fold, wC_fold]
  obtain ⟨k3, w⟩ := w
  obtain ⟨k4, w⟩ := w
  refine ⟨fun c1 => ?_, fun c1 => ?_⟩
  · have t2 : x0 < x1 := ((Jlt k3 k4).mp c1)
    replace w := w.1 t2
    exact ⟨(Or.inl (by trivial)), w⟩
  · have t2 : ¬ x0 < x1 := (fun e => c1 ((Jlt k3 k4).mpr e))
    replace w := w.2 t2
    obtain ⟨k7, w⟩ := w
    refine ⟨fun c5 => ?_, fun c5 => ?_⟩
    · have t6 : x2 < x0 := ((Jlt k7 k3).mp c5)
      replace w := w.1 t6
      exact ⟨(Or.inl (by trivial)), w⟩
    · have t6 : ¬ x2 < x0 := (fun e => c5 ((Jlt k7 k3).mpr e))
      replace w := w.2 t6
      exact ⟨(Or.inr (by trivial)), w⟩
theorem m25 {X : Cst} {d : Nat} {x a b : Int} {h : AH} {Q : Post} (C : Lay h) (hd : 1 ≤ d) (g1 : -2147483648 ≤ x ∧ x < 2147483648) (g2 : -2147483648 ≤ a ∧ a < 2147483648) (g3 : -2147483648 ≤ b ∧ b < 2147483648) (k : Q (some (.int (J (bI (a ≤ x ∧ x ≤ b))))) h) : Ex X PG d 25 0 [some (.int (J x)), some (.int (J a)), some (.int (J b))] [] h Q := by
  obtain ⟨d, rfl⟩ : ∃ e, d = e + 1 := ⟨d - 1, by omega⟩
  refine r25_0 C ⟨g1, g2, fun c => ?_, fun c => ⟨g3, fun c2 => ?_, fun c2 => ?_⟩⟩
  · rw [bI_neg (by omega)] at k; exact k
  · rw [bI_neg (by omega)] at k; exact k
  · rw [bI_pos (by omega)] at k; exact k
-- OutwardDoors$Tape.behind(III)I at 0
set_option maxRecDepth 20000 in
set_option maxHeartbeats 4000000 in
theorem r26_0 {X : Cst} {d : Nat} {x1 : Int} {x2 : Int} {x3 : Int} {h : AH} {Q : Post} (C_h : Lay h)
  (w : Ex X PG (d + 1) 26 3 [some (.ref 1), some (.int (J x1)), some (.int (J x2)), some (.int (J x3)), some (.int (J x1))] [] h Q) :
    Ex X PG (d + 1) 26 0 [some (.ref 1), some (.int (J x1)), some (.int (J x2)), some (.int (J x3)), none] [] h Q := by
  refine wpx_ok (cut := [3]) 2 d 26 0 _ _ _ _ ?_
  show Ex X PG (d + 1) 26 3 [some (.ref 1), some (.int (J x1)), some (.int (J x2)), some (.int (J x3)), some (.int (J x1))] [] h Q
  try simp only [aI_wAL, fI_wAL, aL_wA, aL_wF, aI_wA_ne, aI_wF_ne, fI_wA_ne, fI_wF_ne, fI_wF_nk, aL_wAL_ne, J_sameA, J_sameF, aL_same, Nat.add_left_cancel_iff, Nat.add_eq_left, Nat.left_eq_add, not_false_eq_true, Nat.reduceEqDiff, Nat.reduceAdd, J_add, J_sub, J_mul, J_neg, J_and, J_or, J_xor, J_shl, J_shr, J_div, J_i2b, J_i2l, J_l2i, J_lcm, J_max, J_min, J_nab, J_nao, rdA, rdF, rdL, wA_fold, wF_fold, wL_fold, wC_fold]
  exact w
-- OutwardDoors$Tape.behind(III)I at 3
set_option maxRecDepth 20000 in
set_option maxHeartbeats 4000000 in
theorem r26_3 {X : Cst} {d : Nat} {x1 : Int} {x2 : Int} {x3 : Int} {x4 : Int} {h : AH} {Q : Post} (C_h : Lay h)
  (w : (-2147483648 ≤ x4 ∧ x4 < 2147483648) ∧ ((fI h 1 1 ≤ x4 → Q (some (.int (J x4))) h) ∧ (¬ fI h 1 1 ≤ x4 → (0 ≤ x4 ∧ x4 < 400) ∧ (-2147483648 ≤ x2 ∧ x2 < 2147483648) ∧ ((aI h 2 x4 < x2 → Q (some (.int (J x4))) h) ∧ (¬ aI h 2 x4 < x2 → (-2147483648 ≤ x3 ∧ x3 < 2147483648) ∧ ((x3 < aI h 2 x4 → Q (some (.int (J x4))) h) ∧ (¬ x3 < aI h 2 x4 → Ex X PG (d + 1) 26 3 [some (.ref 1), some (.int (J x1)), some (.int (J x2)), some (.int (J x3)), some (.int (J (x4 + 1)))] [] h Q))))))) :
    Ex X PG (d + 1) 26 3 [some (.ref 1), some (.int (J x1)), some (.int (J x2)), some (.int (J x3)), some (.int (J x4))] [] h Q := by
  refine wpx_ok (cut := [3]) 18 d 26 3 _ _ _ _ ?_
  show hs h 1 = (0, 8) ∧ (((hF h 1 1) ≤ (J x4) → Q (some (.int (J x4))) h) ∧ (¬ ((hF h 1 1) ≤ (J x4)) → hs h 1 = (0, 8) ∧ ∃ q4, hR h 1 0 = some q4 ∧ ((hs h q4).1 = 3 ∨ (hs h q4).1 = 4) ∧ ix (J x4) (hs h q4).2 ∧ (((hI h q4 (Int32.toNatClampNeg (J x4))) < (J x2) → Q (some (.int (J x4))) h) ∧ (¬ ((hI h q4 (Int32.toNatClampNeg (J x4))) < (J x2)) → hs h 1 = (0, 8) ∧ ∃ q9, hR h 1 0 = some q9 ∧ ((hs h q9).1 = 3 ∨ (hs h q9).1 = 4) ∧ ix (J x4) (hs h q9).2 ∧ (((J x3) < (hI h q9 (Int32.toNatClampNeg (J x4))) → Q (some (.int (J x4))) h) ∧ (¬ ((J x3) < (hI h q9 (Int32.toNatClampNeg (J x4)))) → Ex X PG (d + 1) 26 3 [some (.ref 1), some (.int (J x1)), some (.int (J x2)), some (.int (J x3)), some (.int ((J x4) + (J 1)))] [] h Q))))))
  try simp only [aI_wAL, fI_wAL, aL_wA, aL_wF, aI_wA_ne, aI_wF_ne, fI_wA_ne, fI_wF_ne, fI_wF_nk, aL_wAL_ne, J_sameA, J_sameF, aL_same, Nat.add_left_cancel_iff, Nat.add_eq_left, Nat.left_eq_add, not_false_eq_true, Nat.reduceEqDiff, Nat.reduceAdd, J_add, J_sub, J_mul, J_neg, J_and, J_or, J_xor, J_shl, J_shr, J_div, J_i2b, J_i2l, J_l2i, J_lcm, J_max, J_min, J_nab, J_nao, rdA, rdF, rdL, wA_fold, wF_fold, wL_fold, wC_fold]
  refine ⟨(ls1 C_h), ?_⟩
  obtain ⟨k3, w⟩ := w
  refine ⟨fun c1 => ?_, fun c1 => ?_⟩
  · have t2 : fI h 1 1 ≤ x4 := ((Jle (rg_toInt _) k3).mp c1)
    replace w := w.1 t2
    exact w
  · have t2 : ¬ fI h 1 1 ≤ x4 := (fun e => c1 ((Jle (rg_toInt _) k3).mpr e))
    replace w := w.2 t2
    refine ⟨(ls1 C_h), _, (lr1_0 C_h), ?_⟩
    obtain ⟨k5, w⟩ := w
    refine ⟨Or.inl (congrArg Prod.fst (ls2 C_h)), ixs (ls2 C_h) k5 (by decide), ?_⟩
    obtain ⟨k8, w⟩ := w
    refine ⟨fun c6 => ?_, fun c6 => ?_⟩
    · have t7 : aI h 2 x4 < x2 := ((Jlt (rg_toInt _) k8).mp c6)
      replace w := w.1 t7
      exact w
    · have t7 : ¬ aI h 2 x4 < x2 := (fun e => c6 ((Jlt (rg_toInt _) k8).mpr e))
      replace w := w.2 t7
      refine ⟨(ls1 C_h), _, (lr1_0 C_h), ?_⟩
      refine ⟨Or.inl (congrArg Prod.fst (ls2 C_h)), ixs (ls2 C_h) k5 (by decide), ?_⟩
      obtain ⟨k12, w⟩ := w
      refine ⟨fun c10 => ?_, fun c10 => ?_⟩
      · have t11 : x3 < aI h 2 x4 := ((Jlt k12 (rg_toInt _)).mp c10)
        replace w := w.1 t11
        exact w
      · have t11 : ¬ x3 < aI h 2 x4 := (fun e => c10 ((Jlt k12 (rg_toInt _)).mpr e))
        replace w := w.2 t11
        exact w
theorem m26 {X : Cst} {d : Nat} {i a b L : Int} {h : AH} {Q : Post} (C : Lay h) (hd : 1 ≤ d) (eL : fI h 1 1 = L) (hL : L ≤ 400) (i0 : 0 ≤ i ∧ i ≤ 400) (g2 : -2147483648 ≤ a ∧ a < 2147483648) (g3 : -2147483648 ≤ b ∧ b < 2147483648) (k : Q (some (.int (J (rn (aI h 2) L (fun c => a ≤ c ∧ c ≤ b) i)))) h) : Ex X PG d 26 0 [some (.ref 1), some (.int (J i)), some (.int (J a)), some (.int (J b)), none] [] h Q := by
  obtain ⟨d, rfl⟩ : ∃ e, d = e + 1 := ⟨d - 1, by omega⟩
  have lp : ∀ (z : Nat) (j : Int), 401 - j = z → 0 ≤ j → j ≤ 400 → rn (aI h 2) L (fun c => a ≤ c ∧ c ≤ b) j = rn (aI h 2) L (fun c => a ≤ c ∧ c ≤ b) i → Ex X PG (d + 1) 26 3 [some (.ref 1), some (.int (J i)), some (.int (J a)), some (.int (J b)), some (.int (J j))] [] h Q := by
    intro z
    induction z with
    | zero => intro j e; omega
    | succ z ih =>
      intro j e j0 j1 er
      have st : ¬ (j < L ∧ (a ≤ aI h 2 j ∧ aI h 2 j ≤ b)) → Q (some (.int (J j))) h := by
        intro n
        rw [← er, rn_no j0 hL n] at k
        exact k
      refine r26_3 C ?_
      rw [eL]
      refine ⟨by omega, fun c => st (fun z => by omega), fun c => ⟨by omega, g2, fun c2 => st (fun z => by omega), fun c2 => ⟨g3, fun c3 => st (fun z => by omega), fun c3 => ?_⟩⟩⟩
      refine ih (j + 1) (by omega) (by omega) (by omega) ?_
      rw [← er]
      exact (rn_s j0 hL (P := fun c => a ≤ c ∧ c ≤ b) ⟨by omega, by omega, by omega⟩).symm
  refine r26_0 C ?_
  exact lp (401 - i).toNat i (by omega) i0.1 i0.2 rfl
-- OutwardDoors$Tape.numberIn(II)I at 0
set_option maxRecDepth 20000 in
set_option maxHeartbeats 4000000 in
theorem r27_0 {X : Cst} {d : Nat} {x1 : Int} {x2 : Int} {h : AH} {Q : Post} (C_h : Lay h)
  (w : Ex X PG (d + 1) 27 5 [some (.ref 1), some (.int (J x1)), some (.int (J x2)), some (.int (J 0)), some (.int (J x1))] [] h Q) :
    Ex X PG (d + 1) 27 0 [some (.ref 1), some (.int (J x1)), some (.int (J x2)), none, none] [] h Q := by
  refine wpx_ok (cut := [5]) 4 d 27 0 _ _ _ _ ?_
  show Ex X PG (d + 1) 27 5 [some (.ref 1), some (.int (J x1)), some (.int (J x2)), some (.int (J 0)), some (.int (J x1))] [] h Q
  try simp only [aI_wAL, fI_wAL, aL_wA, aL_wF, aI_wA_ne, aI_wF_ne, fI_wA_ne, fI_wF_ne, fI_wF_nk, aL_wAL_ne, J_sameA, J_sameF, aL_same, Nat.add_left_cancel_iff, Nat.add_eq_left, Nat.left_eq_add, not_false_eq_true, Nat.reduceEqDiff, Nat.reduceAdd, J_add, J_sub, J_mul, J_neg, J_and, J_or, J_xor, J_shl, J_shr, J_div, J_i2b, J_i2l, J_l2i, J_lcm, J_max, J_min, J_nab, J_nao, rdA, rdF, rdL, wA_fold, wF_fold, wL_fold, wC_fold]
  exact w
-- OutwardDoors$Tape.numberIn(II)I at 5
set_option maxRecDepth 20000 in
set_option maxHeartbeats 4000000 in
theorem r27_5 {X : Cst} {d : Nat} {x1 : Int} {x2 : Int} {x3 : Int} {x4 : Int} {h : AH} {Q : Post} (C_h : Lay h)
  (w : (-2147483648 ≤ x4 ∧ x4 < 2147483648) ∧ (-2147483648 ≤ x2 ∧ x2 < 2147483648) ∧ ((x2 ≤ x4 → Q (some (.int (J x3))) h) ∧ (¬ x2 ≤ x4 → (0 ≤ x4 ∧ x4 < 400) ∧ Ex X PG (d + 1) 27 5 [some (.ref 1), some (.int (J x1)), some (.int (J x2)), some (.int (J (((x3 * 10) + (aI h 2 x4)) - 48))), some (.int (J (x4 + 1)))] [] h Q))) :
    Ex X PG (d + 1) 27 5 [some (.ref 1), some (.int (J x1)), some (.int (J x2)), some (.int (J x3)), some (.int (J x4))] [] h Q := by
  refine wpx_ok (cut := [5]) 16 d 27 5 _ _ _ _ ?_
  show (((J x2) ≤ (J x4) → Q (some (.int (J x3))) h) ∧ (¬ ((J x2) ≤ (J x4)) → hs h 1 = (0, 8) ∧ ∃ q5, hR h 1 0 = some q5 ∧ ((hs h q5).1 = 3 ∨ (hs h q5).1 = 4) ∧ ix (J x4) (hs h q5).2 ∧ Ex X PG (d + 1) 27 5 [some (.ref 1), some (.int (J x1)), some (.int (J x2)), some (.int ((((J x3) * (J 10)) + (hI h q5 (Int32.toNatClampNeg (J x4)))) - (J 48))), some (.int ((J x4) + (J 1)))] [] h Q))
  try simp only [aI_wAL, fI_wAL, aL_wA, aL_wF, aI_wA_ne, aI_wF_ne, fI_wA_ne, fI_wF_ne, fI_wF_nk, aL_wAL_ne, J_sameA, J_sameF, aL_same, Nat.add_left_cancel_iff, Nat.add_eq_left, Nat.left_eq_add, not_false_eq_true, Nat.reduceEqDiff, Nat.reduceAdd, J_add, J_sub, J_mul, J_neg, J_and, J_or, J_xor, J_shl, J_shr, J_div, J_i2b, J_i2l, J_l2i, J_lcm, J_max, J_min, J_nab, J_nao, rdA, rdF, rdL, wA_fold, wF_fold, wL_fold, wC_fold]
  obtain ⟨k3, w⟩ := w
  obtain ⟨k4, w⟩ := w
  refine ⟨fun c1 => ?_, fun c1 => ?_⟩
  · have t2 : x2 ≤ x4 := ((Jle k4 k3).mp c1)
    replace w := w.1 t2
    exact w
  · have t2 : ¬ x2 ≤ x4 := (fun e => c1 ((Jle k4 k3).mpr e))
    replace w := w.2 t2
    refine ⟨(ls1 C_h), _, (lr1_0 C_h), ?_⟩
    obtain ⟨k6, w⟩ := w
    refine ⟨Or.inl (congrArg Prod.fst (ls2 C_h)), ixs (ls2 C_h) k6 (by decide), ?_⟩
    exact w
theorem m27 {X : Cst} {d : Nat} {i e : Int} {h : AH} {Q : Post} (C : Lay h) (hd : 1 ≤ d) (i0 : 0 ≤ i ∧ i ≤ e) (e1 : e ≤ 400) (k : Q (some (.int (J (nvN (aI h 2) i (e - i).toNat)))) h) : Ex X PG d 27 0 [some (.ref 1), some (.int (J i)), some (.int (J e)), none, none] [] h Q := by
  obtain ⟨d, rfl⟩ : ∃ e, d = e + 1 := ⟨d - 1, by omega⟩
  have lp : ∀ (z n : Nat), e - i - n = z → Ex X PG (d + 1) 27 5 [some (.ref 1), some (.int (J i)), some (.int (J e)), some (.int (J (nvN (aI h 2) i n))), some (.int (J (i + n)))] [] h Q := by
    intro z
    induction z with
    | zero =>
      intro n ez
      refine r27_5 C ⟨by omega, by omega, fun _ => ?_, fun y => absurd (by omega) y⟩
      rw [show (e - i).toNat = n by omega] at k; exact k
    | succ z ih =>
      intro n ez
      refine r27_5 C ⟨by omega, by omega, fun y => absurd y (by omega), fun _ => ⟨by omega, ?_⟩⟩
      have := ih (n + 1) (by omega)
      rw [show i + ((n + 1 : Nat) : Int) = i + n + 1 by omega] at this
      exact this
  refine r27_0 C ?_
  have := lp (e - i).toNat 0 (by omega)
  rw [show i + ((0 : Nat) : Int) = i by omega] at this
  exact this
-- OutwardDoors$Tape.scanMark(I)V at 0
set_option maxRecDepth 20000 in
set_option maxHeartbeats 4000000 in
theorem r28_0 {X : Cst} {d : Nat} {x1 : Int} {h : AH} {Q : Post} (C_h : Lay h)
  (w : (0 ≤ x1 ∧ x1 < 400) ∧ ((aI h 2 x1 = 60 → (-2147483648 ≤ x1 + 1 ∧ x1 + 1 < 2147483648) ∧ ((fI h 1 1 ≤ x1 + 1 → Q none (wF (wF (wF h 1 2 3) 1 5 (aI h 2 x1)) 1 4 (x1 + 1))) ∧ (¬ fI h 1 1 ≤ x1 + 1 → (0 ≤ x1 + 1 ∧ x1 + 1 < 400) ∧ ((¬ aI h 2 (x1 + 1) = 61 → Q none (wF (wF (wF h 1 2 3) 1 5 (aI h 2 x1)) 1 4 (x1 + 1))) ∧ (aI h 2 (x1 + 1) = 61 → Q none (wF (wF (wF (wF (wF h 1 2 3) 1 5 (aI h 2 x1)) 1 4 (x1 + 1)) 1 5 256) 1 4 ((x1 + 1) + 1))))))) ∧ (¬ aI h 2 x1 = 60 → ((¬ aI h 2 x1 = 62 → Q none (wF (wF (wF h 1 2 3) 1 5 (aI h 2 x1)) 1 4 (x1 + 1))) ∧ (aI h 2 x1 = 62 → (-2147483648 ≤ x1 + 1 ∧ x1 + 1 < 2147483648) ∧ ((fI h 1 1 ≤ x1 + 1 → Q none (wF (wF (wF h 1 2 3) 1 5 (aI h 2 x1)) 1 4 (x1 + 1))) ∧ (¬ fI h 1 1 ≤ x1 + 1 → (0 ≤ x1 + 1 ∧ x1 + 1 < 400) ∧ ((¬ aI h 2 (x1 + 1) = 61 → Q none (wF (wF (wF h 1 2 3) 1 5 (aI h 2 x1)) 1 4 (x1 + 1))) ∧ (aI h 2 (x1 + 1) = 61 → Q none (wF (wF (wF (wF (wF h 1 2 3) 1 5 (aI h 2 x1)) 1 4 (x1 + 1)) 1 5 257) 1 4 ((x1 + 1) + 1))))))))))) :
    Ex X PG (d + 1) 28 0 [some (.ref 1), some (.int (J x1)), none] [] h Q := by
  refine wpx_ok (cut := []) 54 d 28 0 _ _ _ _ ?_
  show hs h 1 = (0, 8) ∧ hs (wG h 1 2 (J 3)) 1 = (0, 8) ∧ ∃ q1, hR (wG h 1 2 (J 3)) 1 0 = some q1 ∧ ((hs (wG h 1 2 (J 3)) q1).1 = 3 ∨ (hs (wG h 1 2 (J 3)) q1).1 = 4) ∧ ix (J x1) (hs (wG h 1 2 (J 3)) q1).2 ∧ hs (wG h 1 2 (J 3)) 1 = (0, 8) ∧ hs (wG (wG h 1 2 (J 3)) 1 5 (hI (wG h 1 2 (J 3)) q1 (Int32.toNatClampNeg (J x1)))) 1 = (0, 8) ∧ hs (wG (wG (wG h 1 2 (J 3)) 1 5 (hI (wG h 1 2 (J 3)) q1 (Int32.toNatClampNeg (J x1)))) 1 4 ((J x1) + (J 1))) 1 = (0, 8) ∧ (((hF (wG (wG (wG h 1 2 (J 3)) 1 5 (hI (wG h 1 2 (J 3)) q1 (Int32.toNatClampNeg (J x1)))) 1 4 ((J x1) + (J 1))) 1 5) = (J 60) → (((J 1) = (J 0) → Q none (wG (wG (wG h 1 2 (J 3)) 1 5 (hI (wG h 1 2 (J 3)) q1 (Int32.toNatClampNeg (J x1)))) 1 4 ((J x1) + (J 1)))) ∧ (¬ ((J 1) = (J 0)) → hs (wG (wG (wG h 1 2 (J 3)) 1 5 (hI (wG h 1 2 (J 3)) q1 (Int32.toNatClampNeg (J x1)))) 1 4 ((J x1) + (J 1))) 1 = (0, 8) ∧ hs (wG (wG (wG h 1 2 (J 3)) 1 5 (hI (wG h 1 2 (J 3)) q1 (Int32.toNatClampNeg (J x1)))) 1 4 ((J x1) + (J 1))) 1 = (0, 8) ∧ (((hF (wG (wG (wG h 1 2 (J 3)) 1 5 (hI (wG h 1 2 (J 3)) q1 (Int32.toNatClampNeg (J x1)))) 1 4 ((J x1) + (J 1))) 1 1) ≤ (hF (wG (wG (wG h 1 2 (J 3)) 1 5 (hI (wG h 1 2 (J 3)) q1 (Int32.toNatClampNeg (J x1)))) 1 4 ((J x1) + (J 1))) 1 4) → Q none (wG (wG (wG h 1 2 (J 3)) 1 5 (hI (wG h 1 2 (J 3)) q1 (Int32.toNatClampNeg (J x1)))) 1 4 ((J x1) + (J 1)))) ∧ (¬ ((hF (wG (wG (wG h 1 2 (J 3)) 1 5 (hI (wG h 1 2 (J 3)) q1 (Int32.toNatClampNeg (J x1)))) 1 4 ((J x1) + (J 1))) 1 1) ≤ (hF (wG (wG (wG h 1 2 (J 3)) 1 5 (hI (wG h 1 2 (J 3)) q1 (Int32.toNatClampNeg (J x1)))) 1 4 ((J x1) + (J 1))) 1 4)) → hs (wG (wG (wG h 1 2 (J 3)) 1 5 (hI (wG h 1 2 (J 3)) q1 (Int32.toNatClampNeg (J x1)))) 1 4 ((J x1) + (J 1))) 1 = (0, 8) ∧ ∃ q8, hR (wG (wG (wG h 1 2 (J 3)) 1 5 (hI (wG h 1 2 (J 3)) q1 (Int32.toNatClampNeg (J x1)))) 1 4 ((J x1) + (J 1))) 1 0 = some q8 ∧ hs (wG (wG (wG h 1 2 (J 3)) 1 5 (hI (wG h 1 2 (J 3)) q1 (Int32.toNatClampNeg (J x1)))) 1 4 ((J x1) + (J 1))) 1 = (0, 8) ∧ ((hs (wG (wG (wG h 1 2 (J 3)) 1 5 (hI (wG h 1 2 (J 3)) q1 (Int32.toNatClampNeg (J x1)))) 1 4 ((J x1) + (J 1))) q8).1 = 3 ∨ (hs (wG (wG (wG h 1 2 (J 3)) 1 5 (hI (wG h 1 2 (J 3)) q1 (Int32.toNatClampNeg (J x1)))) 1 4 ((J x1) + (J 1))) q8).1 = 4) ∧ ix (hF (wG (wG (wG h 1 2 (J 3)) 1 5 (hI (wG h 1 2 (J 3)) q1 (Int32.toNatClampNeg (J x1)))) 1 4 ((J x1) + (J 1))) 1 4) (hs (wG (wG (wG h 1 2 (J 3)) 1 5 (hI (wG h 1 2 (J 3)) q1 (Int32.toNatClampNeg (J x1)))) 1 4 ((J x1) + (J 1))) q8).2 ∧ ((¬ (hI (wG (wG (wG h 1 2 (J 3)) 1 5 (hI (wG h 1 2 (J 3)) q1 (Int32.toNatClampNeg (J x1)))) 1 4 ((J x1) + (J 1))) q8 (Int32.toNatClampNeg (hF (wG (wG (wG h 1 2 (J 3)) 1 5 (hI (wG h 1 2 (J 3)) q1 (Int32.toNatClampNeg (J x1)))) 1 4 ((J x1) + (J 1))) 1 4))) = (J 61) → Q none (wG (wG (wG h 1 2 (J 3)) 1 5 (hI (wG h 1 2 (J 3)) q1 (Int32.toNatClampNeg (J x1)))) 1 4 ((J x1) + (J 1)))) ∧ (¬ (¬ (hI (wG (wG (wG h 1 2 (J 3)) 1 5 (hI (wG h 1 2 (J 3)) q1 (Int32.toNatClampNeg (J x1)))) 1 4 ((J x1) + (J 1))) q8 (Int32.toNatClampNeg (hF (wG (wG (wG h 1 2 (J 3)) 1 5 (hI (wG h 1 2 (J 3)) q1 (Int32.toNatClampNeg (J x1)))) 1 4 ((J x1) + (J 1))) 1 4))) = (J 61)) → hs (wG (wG (wG h 1 2 (J 3)) 1 5 (hI (wG h 1 2 (J 3)) q1 (Int32.toNatClampNeg (J x1)))) 1 4 ((J x1) + (J 1))) 1 = (0, 8) ∧ ((¬ (hF (wG (wG (wG h 1 2 (J 3)) 1 5 (hI (wG h 1 2 (J 3)) q1 (Int32.toNatClampNeg (J x1)))) 1 4 ((J x1) + (J 1))) 1 5) = (J 60) → hs (wG (wG (wG h 1 2 (J 3)) 1 5 (hI (wG h 1 2 (J 3)) q1 (Int32.toNatClampNeg (J x1)))) 1 4 ((J x1) + (J 1))) 1 = (0, 8) ∧ hs (wG (wG (wG (wG h 1 2 (J 3)) 1 5 (hI (wG h 1 2 (J 3)) q1 (Int32.toNatClampNeg (J x1)))) 1 4 ((J x1) + (J 1))) 1 5 (J 257)) 1 = (0, 8) ∧ hs (wG (wG (wG (wG h 1 2 (J 3)) 1 5 (hI (wG h 1 2 (J 3)) q1 (Int32.toNatClampNeg (J x1)))) 1 4 ((J x1) + (J 1))) 1 5 (J 257)) 1 = (0, 8) ∧ Q none (wG (wG (wG (wG (wG h 1 2 (J 3)) 1 5 (hI (wG h 1 2 (J 3)) q1 (Int32.toNatClampNeg (J x1)))) 1 4 ((J x1) + (J 1))) 1 5 (J 257)) 1 4 ((hF (wG (wG (wG (wG h 1 2 (J 3)) 1 5 (hI (wG h 1 2 (J 3)) q1 (Int32.toNatClampNeg (J x1)))) 1 4 ((J x1) + (J 1))) 1 5 (J 257)) 1 4) + (J 1)))) ∧ (¬ (¬ (hF (wG (wG (wG h 1 2 (J 3)) 1 5 (hI (wG h 1 2 (J 3)) q1 (Int32.toNatClampNeg (J x1)))) 1 4 ((J x1) + (J 1))) 1 5) = (J 60)) → hs (wG (wG (wG h 1 2 (J 3)) 1 5 (hI (wG h 1 2 (J 3)) q1 (Int32.toNatClampNeg (J x1)))) 1 4 ((J x1) + (J 1))) 1 = (0, 8) ∧ hs (wG (wG (wG (wG h 1 2 (J 3)) 1 5 (hI (wG h 1 2 (J 3)) q1 (Int32.toNatClampNeg (J x1)))) 1 4 ((J x1) + (J 1))) 1 5 (J 256)) 1 = (0, 8) ∧ hs (wG (wG (wG (wG h 1 2 (J 3)) 1 5 (hI (wG h 1 2 (J 3)) q1 (Int32.toNatClampNeg (J x1)))) 1 4 ((J x1) + (J 1))) 1 5 (J 256)) 1 = (0, 8) ∧ Q none (wG (wG (wG (wG (wG h 1 2 (J 3)) 1 5 (hI (wG h 1 2 (J 3)) q1 (Int32.toNatClampNeg (J x1)))) 1 4 ((J x1) + (J 1))) 1 5 (J 256)) 1 4 ((hF (wG (wG (wG (wG h 1 2 (J 3)) 1 5 (hI (wG h 1 2 (J 3)) q1 (Int32.toNatClampNeg (J x1)))) 1 4 ((J x1) + (J 1))) 1 5 (J 256)) 1 4) + (J 1)))))))))))) ∧ (¬ ((hF (wG (wG (wG h 1 2 (J 3)) 1 5 (hI (wG h 1 2 (J 3)) q1 (Int32.toNatClampNeg (J x1)))) 1 4 ((J x1) + (J 1))) 1 5) = (J 60)) → hs (wG (wG (wG h 1 2 (J 3)) 1 5 (hI (wG h 1 2 (J 3)) q1 (Int32.toNatClampNeg (J x1)))) 1 4 ((J x1) + (J 1))) 1 = (0, 8) ∧ ((¬ (hF (wG (wG (wG h 1 2 (J 3)) 1 5 (hI (wG h 1 2 (J 3)) q1 (Int32.toNatClampNeg (J x1)))) 1 4 ((J x1) + (J 1))) 1 5) = (J 62) → (((J 0) = (J 0) → Q none (wG (wG (wG h 1 2 (J 3)) 1 5 (hI (wG h 1 2 (J 3)) q1 (Int32.toNatClampNeg (J x1)))) 1 4 ((J x1) + (J 1)))) ∧ (¬ ((J 0) = (J 0)) → hs (wG (wG (wG h 1 2 (J 3)) 1 5 (hI (wG h 1 2 (J 3)) q1 (Int32.toNatClampNeg (J x1)))) 1 4 ((J x1) + (J 1))) 1 = (0, 8) ∧ hs (wG (wG (wG h 1 2 (J 3)) 1 5 (hI (wG h 1 2 (J 3)) q1 (Int32.toNatClampNeg (J x1)))) 1 4 ((J x1) + (J 1))) 1 = (0, 8) ∧ (((hF (wG (wG (wG h 1 2 (J 3)) 1 5 (hI (wG h 1 2 (J 3)) q1 (Int32.toNatClampNeg (J x1)))) 1 4 ((J x1) + (J 1))) 1 1) ≤ (hF (wG (wG (wG h 1 2 (J 3)) 1 5 (hI (wG h 1 2 (J 3)) q1 (Int32.toNatClampNeg (J x1)))) 1 4 ((J x1) + (J 1))) 1 4) → Q none (wG (wG (wG h 1 2 (J 3)) 1 5 (hI (wG h 1 2 (J 3)) q1 (Int32.toNatClampNeg (J x1)))) 1 4 ((J x1) + (J 1)))) ∧ (¬ ((hF (wG (wG (wG h 1 2 (J 3)) 1 5 (hI (wG h 1 2 (J 3)) q1 (Int32.toNatClampNeg (J x1)))) 1 4 ((J x1) + (J 1))) 1 1) ≤ (hF (wG (wG (wG h 1 2 (J 3)) 1 5 (hI (wG h 1 2 (J 3)) q1 (Int32.toNatClampNeg (J x1)))) 1 4 ((J x1) + (J 1))) 1 4)) → hs (wG (wG (wG h 1 2 (J 3)) 1 5 (hI (wG h 1 2 (J 3)) q1 (Int32.toNatClampNeg (J x1)))) 1 4 ((J x1) + (J 1))) 1 = (0, 8) ∧ ∃ q19, hR (wG (wG (wG h 1 2 (J 3)) 1 5 (hI (wG h 1 2 (J 3)) q1 (Int32.toNatClampNeg (J x1)))) 1 4 ((J x1) + (J 1))) 1 0 = some q19 ∧ hs (wG (wG (wG h 1 2 (J 3)) 1 5 (hI (wG h 1 2 (J 3)) q1 (Int32.toNatClampNeg (J x1)))) 1 4 ((J x1) + (J 1))) 1 = (0, 8) ∧ ((hs (wG (wG (wG h 1 2 (J 3)) 1 5 (hI (wG h 1 2 (J 3)) q1 (Int32.toNatClampNeg (J x1)))) 1 4 ((J x1) + (J 1))) q19).1 = 3 ∨ (hs (wG (wG (wG h 1 2 (J 3)) 1 5 (hI (wG h 1 2 (J 3)) q1 (Int32.toNatClampNeg (J x1)))) 1 4 ((J x1) + (J 1))) q19).1 = 4) ∧ ix (hF (wG (wG (wG h 1 2 (J 3)) 1 5 (hI (wG h 1 2 (J 3)) q1 (Int32.toNatClampNeg (J x1)))) 1 4 ((J x1) + (J 1))) 1 4) (hs (wG (wG (wG h 1 2 (J 3)) 1 5 (hI (wG h 1 2 (J 3)) q1 (Int32.toNatClampNeg (J x1)))) 1 4 ((J x1) + (J 1))) q19).2 ∧ ((¬ (hI (wG (wG (wG h 1 2 (J 3)) 1 5 (hI (wG h 1 2 (J 3)) q1 (Int32.toNatClampNeg (J x1)))) 1 4 ((J x1) + (J 1))) q19 (Int32.toNatClampNeg (hF (wG (wG (wG h 1 2 (J 3)) 1 5 (hI (wG h 1 2 (J 3)) q1 (Int32.toNatClampNeg (J x1)))) 1 4 ((J x1) + (J 1))) 1 4))) = (J 61) → Q none (wG (wG (wG h 1 2 (J 3)) 1 5 (hI (wG h 1 2 (J 3)) q1 (Int32.toNatClampNeg (J x1)))) 1 4 ((J x1) + (J 1)))) ∧ (¬ (¬ (hI (wG (wG (wG h 1 2 (J 3)) 1 5 (hI (wG h 1 2 (J 3)) q1 (Int32.toNatClampNeg (J x1)))) 1 4 ((J x1) + (J 1))) q19 (Int32.toNatClampNeg (hF (wG (wG (wG h 1 2 (J 3)) 1 5 (hI (wG h 1 2 (J 3)) q1 (Int32.toNatClampNeg (J x1)))) 1 4 ((J x1) + (J 1))) 1 4))) = (J 61)) → hs (wG (wG (wG h 1 2 (J 3)) 1 5 (hI (wG h 1 2 (J 3)) q1 (Int32.toNatClampNeg (J x1)))) 1 4 ((J x1) + (J 1))) 1 = (0, 8) ∧ ((¬ (hF (wG (wG (wG h 1 2 (J 3)) 1 5 (hI (wG h 1 2 (J 3)) q1 (Int32.toNatClampNeg (J x1)))) 1 4 ((J x1) + (J 1))) 1 5) = (J 60) → hs (wG (wG (wG h 1 2 (J 3)) 1 5 (hI (wG h 1 2 (J 3)) q1 (Int32.toNatClampNeg (J x1)))) 1 4 ((J x1) + (J 1))) 1 = (0, 8) ∧ hs (wG (wG (wG (wG h 1 2 (J 3)) 1 5 (hI (wG h 1 2 (J 3)) q1 (Int32.toNatClampNeg (J x1)))) 1 4 ((J x1) + (J 1))) 1 5 (J 257)) 1 = (0, 8) ∧ hs (wG (wG (wG (wG h 1 2 (J 3)) 1 5 (hI (wG h 1 2 (J 3)) q1 (Int32.toNatClampNeg (J x1)))) 1 4 ((J x1) + (J 1))) 1 5 (J 257)) 1 = (0, 8) ∧ Q none (wG (wG (wG (wG (wG h 1 2 (J 3)) 1 5 (hI (wG h 1 2 (J 3)) q1 (Int32.toNatClampNeg (J x1)))) 1 4 ((J x1) + (J 1))) 1 5 (J 257)) 1 4 ((hF (wG (wG (wG (wG h 1 2 (J 3)) 1 5 (hI (wG h 1 2 (J 3)) q1 (Int32.toNatClampNeg (J x1)))) 1 4 ((J x1) + (J 1))) 1 5 (J 257)) 1 4) + (J 1)))) ∧ (¬ (¬ (hF (wG (wG (wG h 1 2 (J 3)) 1 5 (hI (wG h 1 2 (J 3)) q1 (Int32.toNatClampNeg (J x1)))) 1 4 ((J x1) + (J 1))) 1 5) = (J 60)) → hs (wG (wG (wG h 1 2 (J 3)) 1 5 (hI (wG h 1 2 (J 3)) q1 (Int32.toNatClampNeg (J x1)))) 1 4 ((J x1) + (J 1))) 1 = (0, 8) ∧ hs (wG (wG (wG (wG h 1 2 (J 3)) 1 5 (hI (wG h 1 2 (J 3)) q1 (Int32.toNatClampNeg (J x1)))) 1 4 ((J x1) + (J 1))) 1 5 (J 256)) 1 = (0, 8) ∧ hs (wG (wG (wG (wG h 1 2 (J 3)) 1 5 (hI (wG h 1 2 (J 3)) q1 (Int32.toNatClampNeg (J x1)))) 1 4 ((J x1) + (J 1))) 1 5 (J 256)) 1 = (0, 8) ∧ Q none (wG (wG (wG (wG (wG h 1 2 (J 3)) 1 5 (hI (wG h 1 2 (J 3)) q1 (Int32.toNatClampNeg (J x1)))) 1 4 ((J x1) + (J 1))) 1 5 (J 256)) 1 4 ((hF (wG (wG (wG (wG h 1 2 (J 3)) 1 5 (hI (wG h 1 2 (J 3)) q1 (Int32.toNatClampNeg (J x1)))) 1 4 ((J x1) + (J 1))) 1 5 (J 256)) 1 4) + (J 1)))))))))))) ∧ (¬ (¬ (hF (wG (wG (wG h 1 2 (J 3)) 1 5 (hI (wG h 1 2 (J 3)) q1 (Int32.toNatClampNeg (J x1)))) 1 4 ((J x1) + (J 1))) 1 5) = (J 62)) → (((J 1) = (J 0) → Q none (wG (wG (wG h 1 2 (J 3)) 1 5 (hI (wG h 1 2 (J 3)) q1 (Int32.toNatClampNeg (J x1)))) 1 4 ((J x1) + (J 1)))) ∧ (¬ ((J 1) = (J 0)) → hs (wG (wG (wG h 1 2 (J 3)) 1 5 (hI (wG h 1 2 (J 3)) q1 (Int32.toNatClampNeg (J x1)))) 1 4 ((J x1) + (J 1))) 1 = (0, 8) ∧ hs (wG (wG (wG h 1 2 (J 3)) 1 5 (hI (wG h 1 2 (J 3)) q1 (Int32.toNatClampNeg (J x1)))) 1 4 ((J x1) + (J 1))) 1 = (0, 8) ∧ (((hF (wG (wG (wG h 1 2 (J 3)) 1 5 (hI (wG h 1 2 (J 3)) q1 (Int32.toNatClampNeg (J x1)))) 1 4 ((J x1) + (J 1))) 1 1) ≤ (hF (wG (wG (wG h 1 2 (J 3)) 1 5 (hI (wG h 1 2 (J 3)) q1 (Int32.toNatClampNeg (J x1)))) 1 4 ((J x1) + (J 1))) 1 4) → Q none (wG (wG (wG h 1 2 (J 3)) 1 5 (hI (wG h 1 2 (J 3)) q1 (Int32.toNatClampNeg (J x1)))) 1 4 ((J x1) + (J 1)))) ∧ (¬ ((hF (wG (wG (wG h 1 2 (J 3)) 1 5 (hI (wG h 1 2 (J 3)) q1 (Int32.toNatClampNeg (J x1)))) 1 4 ((J x1) + (J 1))) 1 1) ≤ (hF (wG (wG (wG h 1 2 (J 3)) 1 5 (hI (wG h 1 2 (J 3)) q1 (Int32.toNatClampNeg (J x1)))) 1 4 ((J x1) + (J 1))) 1 4)) → hs (wG (wG (wG h 1 2 (J 3)) 1 5 (hI (wG h 1 2 (J 3)) q1 (Int32.toNatClampNeg (J x1)))) 1 4 ((J x1) + (J 1))) 1 = (0, 8) ∧ ∃ q28, hR (wG (wG (wG h 1 2 (J 3)) 1 5 (hI (wG h 1 2 (J 3)) q1 (Int32.toNatClampNeg (J x1)))) 1 4 ((J x1) + (J 1))) 1 0 = some q28 ∧ hs (wG (wG (wG h 1 2 (J 3)) 1 5 (hI (wG h 1 2 (J 3)) q1 (Int32.toNatClampNeg (J x1)))) 1 4 ((J x1) + (J 1))) 1 = (0, 8) ∧ ((hs (wG (wG (wG h 1 2 (J 3)) 1 5 (hI (wG h 1 2 (J 3)) q1 (Int32.toNatClampNeg (J x1)))) 1 4 ((J x1) + (J 1))) q28).1 = 3 ∨ (hs (wG (wG (wG h 1 2 (J 3)) 1 5 (hI (wG h 1 2 (J 3)) q1 (Int32.toNatClampNeg (J x1)))) 1 4 ((J x1) + (J 1))) q28).1 = 4) ∧ ix (hF (wG (wG (wG h 1 2 (J 3)) 1 5 (hI (wG h 1 2 (J 3)) q1 (Int32.toNatClampNeg (J x1)))) 1 4 ((J x1) + (J 1))) 1 4) (hs (wG (wG (wG h 1 2 (J 3)) 1 5 (hI (wG h 1 2 (J 3)) q1 (Int32.toNatClampNeg (J x1)))) 1 4 ((J x1) + (J 1))) q28).2 ∧ ((¬ (hI (wG (wG (wG h 1 2 (J 3)) 1 5 (hI (wG h 1 2 (J 3)) q1 (Int32.toNatClampNeg (J x1)))) 1 4 ((J x1) + (J 1))) q28 (Int32.toNatClampNeg (hF (wG (wG (wG h 1 2 (J 3)) 1 5 (hI (wG h 1 2 (J 3)) q1 (Int32.toNatClampNeg (J x1)))) 1 4 ((J x1) + (J 1))) 1 4))) = (J 61) → Q none (wG (wG (wG h 1 2 (J 3)) 1 5 (hI (wG h 1 2 (J 3)) q1 (Int32.toNatClampNeg (J x1)))) 1 4 ((J x1) + (J 1)))) ∧ (¬ (¬ (hI (wG (wG (wG h 1 2 (J 3)) 1 5 (hI (wG h 1 2 (J 3)) q1 (Int32.toNatClampNeg (J x1)))) 1 4 ((J x1) + (J 1))) q28 (Int32.toNatClampNeg (hF (wG (wG (wG h 1 2 (J 3)) 1 5 (hI (wG h 1 2 (J 3)) q1 (Int32.toNatClampNeg (J x1)))) 1 4 ((J x1) + (J 1))) 1 4))) = (J 61)) → hs (wG (wG (wG h 1 2 (J 3)) 1 5 (hI (wG h 1 2 (J 3)) q1 (Int32.toNatClampNeg (J x1)))) 1 4 ((J x1) + (J 1))) 1 = (0, 8) ∧ ((¬ (hF (wG (wG (wG h 1 2 (J 3)) 1 5 (hI (wG h 1 2 (J 3)) q1 (Int32.toNatClampNeg (J x1)))) 1 4 ((J x1) + (J 1))) 1 5) = (J 60) → hs (wG (wG (wG h 1 2 (J 3)) 1 5 (hI (wG h 1 2 (J 3)) q1 (Int32.toNatClampNeg (J x1)))) 1 4 ((J x1) + (J 1))) 1 = (0, 8) ∧ hs (wG (wG (wG (wG h 1 2 (J 3)) 1 5 (hI (wG h 1 2 (J 3)) q1 (Int32.toNatClampNeg (J x1)))) 1 4 ((J x1) + (J 1))) 1 5 (J 257)) 1 = (0, 8) ∧ hs (wG (wG (wG (wG h 1 2 (J 3)) 1 5 (hI (wG h 1 2 (J 3)) q1 (Int32.toNatClampNeg (J x1)))) 1 4 ((J x1) + (J 1))) 1 5 (J 257)) 1 = (0, 8) ∧ Q none (wG (wG (wG (wG (wG h 1 2 (J 3)) 1 5 (hI (wG h 1 2 (J 3)) q1 (Int32.toNatClampNeg (J x1)))) 1 4 ((J x1) + (J 1))) 1 5 (J 257)) 1 4 ((hF (wG (wG (wG (wG h 1 2 (J 3)) 1 5 (hI (wG h 1 2 (J 3)) q1 (Int32.toNatClampNeg (J x1)))) 1 4 ((J x1) + (J 1))) 1 5 (J 257)) 1 4) + (J 1)))) ∧ (¬ (¬ (hF (wG (wG (wG h 1 2 (J 3)) 1 5 (hI (wG h 1 2 (J 3)) q1 (Int32.toNatClampNeg (J x1)))) 1 4 ((J x1) + (J 1))) 1 5) = (J 60)) → hs (wG (wG (wG h 1 2 (J 3)) 1 5 (hI (wG h 1 2 (J 3)) q1 (Int32.toNatClampNeg (J x1)))) 1 4 ((J x1) + (J 1))) 1 = (0, 8) ∧ hs (wG (wG (wG (wG h 1 2 (J 3)) 1 5 (hI (wG h 1 2 (J 3)) q1 (Int32.toNatClampNeg (J x1)))) 1 4 ((J x1) + (J 1))) 1 5 (J 256)) 1 = (0, 8) ∧ hs (wG (wG (wG (wG h 1 2 (J 3)) 1 5 (hI (wG h 1 2 (J 3)) q1 (Int32.toNatClampNeg (J x1)))) 1 4 ((J x1) + (J 1))) 1 5 (J 256)) 1 = (0, 8) ∧ Q none (wG (wG (wG (wG (wG h 1 2 (J 3)) 1 5 (hI (wG h 1 2 (J 3)) q1 (Int32.toNatClampNeg (J x1)))) 1 4 ((J x1) + (J 1))) 1 5 (J 256)) 1 4 ((hF (wG (wG (wG (wG h 1 2 (J 3)) 1 5 (hI (wG h 1 2 (J 3)) q1 (Int32.toNatClampNeg (J x1)))) 1 4 ((J x1) + (J 1))) 1 5 (J 256)) 1 4) + (J 1)))))))))))))))
  try simp only [aI_wAL, fI_wAL, aL_wA, aL_wF, aI_wA_ne, aI_wF_ne, fI_wA_ne, fI_wF_ne, fI_wF_nk, aL_wAL_ne, J_sameA, J_sameF, aL_same, Nat.add_left_cancel_iff, Nat.add_eq_left, Nat.left_eq_add, not_false_eq_true, Nat.reduceEqDiff, Nat.reduceAdd, J_add, J_sub, J_mul, J_neg, J_and, J_or, J_xor, J_shl, J_shr, J_div, J_i2b, J_i2l, J_l2i, J_lcm, J_max, J_min, J_nab, J_nao, rdA, rdF, rdL, wA_fold, wF_fold, wL_fold, wC_fold]
  refine ⟨(ls1 C_h), ?_⟩
  refine ⟨(ls1 C_h), _, (lr1_0 C_h), ?_⟩
  obtain ⟨k2, w⟩ := w
  refine ⟨Or.inl (congrArg Prod.fst (ls2 C_h)), ixs (ls2 C_h) k2 (by decide), ?_⟩
  try simp only [aI_wAL, fI_wAL, aL_wA, aL_wF, aI_wA_ne, aI_wF_ne, fI_wA_ne, fI_wF_ne, fI_wF_nk, aL_wAL_ne, J_sameA, J_sameF, aL_same, Nat.add_left_cancel_iff, Nat.add_eq_left, Nat.left_eq_add, not_false_eq_true, Nat.reduceEqDiff, Nat.reduceAdd]
  refine ⟨(ls1 C_h), ?_⟩
  refine ⟨(ls1 C_h), ?_⟩
  refine ⟨(ls1 C_h), ?_⟩
  refine ⟨fun c3 => ?_, fun c3 => ?_⟩
  · have t4 : aI h 2 x1 = 60 := ((Jeq (rg_toInt _) (by decide)).mp c3)
    replace w := w.1 t4
    refine ⟨fun c => absurd c (by decide), fun _ => ?_⟩
    refine ⟨(ls1 C_h), ?_⟩
    refine ⟨(ls1 C_h), ?_⟩
    obtain ⟨k7, w⟩ := w
    refine ⟨fun c5 => ?_, fun c5 => ?_⟩
    · have t6 : fI h 1 1 ≤ x1 + 1 := ((Jle (rg_toInt _) k7).mp c5)
      replace w := w.1 t6
      exact w
    · have t6 : ¬ fI h 1 1 ≤ x1 + 1 := (fun e => c5 ((Jle (rg_toInt _) k7).mpr e))
      replace w := w.2 t6
      refine ⟨(ls1 C_h), _, (lr1_0 C_h), ?_⟩
      refine ⟨(ls1 C_h), ?_⟩
      obtain ⟨k9, w⟩ := w
      refine ⟨Or.inl (congrArg Prod.fst (ls2 C_h)), ixs (ls2 C_h) k9 (by decide), ?_⟩
      try simp only [aI_wAL, fI_wAL, aL_wA, aL_wF, aI_wA_ne, aI_wF_ne, fI_wA_ne, fI_wF_ne, fI_wF_nk, aL_wAL_ne, J_sameA, J_sameF, aL_same, Nat.add_left_cancel_iff, Nat.add_eq_left, Nat.left_eq_add, not_false_eq_true, Nat.reduceEqDiff, Nat.reduceAdd]
      refine ⟨fun c10 => ?_, fun c10 => ?_⟩
      · have t11 : ¬ aI h 2 (x1 + 1) = 61 := (fun e => c10 ((Jeq (rg_toInt _) (by decide)).mpr e))
        replace w := w.1 t11
        exact w
      · have t11 : aI h 2 (x1 + 1) = 61 := ((Jeq (rg_toInt _) (by decide)).mp (Classical.byContradiction c10))
        replace w := w.2 t11
        refine ⟨(ls1 C_h), ?_⟩
        refine ⟨fun c12 => absurd c12 (fun q => q ((Jeq (rg_toInt _) (by decide)).mpr t4)), fun _ => ?_⟩
        refine ⟨(ls1 C_h), ?_⟩
        refine ⟨(ls1 C_h), ?_⟩
        refine ⟨(ls1 C_h), ?_⟩
        exact w
  · have t4 : ¬ aI h 2 x1 = 60 := (fun e => c3 ((Jeq (rg_toInt _) (by decide)).mpr e))
    replace w := w.2 t4
    refine ⟨(ls1 C_h), ?_⟩
    refine ⟨fun c14 => ?_, fun c14 => ?_⟩
    · have t15 : ¬ aI h 2 x1 = 62 := (fun e => c14 ((Jeq (rg_toInt _) (by decide)).mpr e))
      replace w := w.1 t15
      refine ⟨fun _ => ?_, fun c => absurd (by decide) c⟩
      exact w
    · have t15 : aI h 2 x1 = 62 := ((Jeq (rg_toInt _) (by decide)).mp (Classical.byContradiction c14))
      replace w := w.2 t15
      refine ⟨fun c => absurd c (by decide), fun _ => ?_⟩
      refine ⟨(ls1 C_h), ?_⟩
      refine ⟨(ls1 C_h), ?_⟩
      obtain ⟨k27, w⟩ := w
      refine ⟨fun c25 => ?_, fun c25 => ?_⟩
      · have t26 : fI h 1 1 ≤ x1 + 1 := ((Jle (rg_toInt _) k27).mp c25)
        replace w := w.1 t26
        exact w
      · have t26 : ¬ fI h 1 1 ≤ x1 + 1 := (fun e => c25 ((Jle (rg_toInt _) k27).mpr e))
        replace w := w.2 t26
        refine ⟨(ls1 C_h), _, (lr1_0 C_h), ?_⟩
        refine ⟨(ls1 C_h), ?_⟩
        obtain ⟨k29, w⟩ := w
        refine ⟨Or.inl (congrArg Prod.fst (ls2 C_h)), ixs (ls2 C_h) k29 (by decide), ?_⟩
        try simp only [aI_wAL, fI_wAL, aL_wA, aL_wF, aI_wA_ne, aI_wF_ne, fI_wA_ne, fI_wF_ne, fI_wF_nk, aL_wAL_ne, J_sameA, J_sameF, aL_same, Nat.add_left_cancel_iff, Nat.add_eq_left, Nat.left_eq_add, not_false_eq_true, Nat.reduceEqDiff, Nat.reduceAdd]
        refine ⟨fun c30 => ?_, fun c30 => ?_⟩
        · have t31 : ¬ aI h 2 (x1 + 1) = 61 := (fun e => c30 ((Jeq (rg_toInt _) (by decide)).mpr e))
          replace w := w.1 t31
          exact w
        · have t31 : aI h 2 (x1 + 1) = 61 := ((Jeq (rg_toInt _) (by decide)).mp (Classical.byContradiction c30))
          replace w := w.2 t31
          refine ⟨(ls1 C_h), ?_⟩
          refine ⟨fun _ => ?_, fun c32 => absurd (fun e => t4 ((Jeq (rg_toInt _) (by decide)).mp e)) c32⟩
          refine ⟨(ls1 C_h), ?_⟩
          refine ⟨(ls1 C_h), ?_⟩
          refine ⟨(ls1 C_h), ?_⟩
          exact w
theorem m28 {X : Cst} {d : Nat} {j L : Int} {h : AH} {Q : Post} (C : Lay h) (hd : 1 ≤ d) (eL : fI h 1 1 = L) (hL : L ≤ 400) (i0 : 0 ≤ j ∧ j < L) (k : ∀ h', Fr TTk h h' → fI h' 1 3 = fI h 1 3 → fI h' 1 2 = 3 → fI h' 1 4 = pI (wdn (aI h 2) L j) (j + 2) (j + 1) → fI h' 1 5 = pI (wdn (aI h 2) L j) (pI (aI h 2 j = 60) 256 257) (aI h 2 j) → Q none h') : Ex X PG d 28 0 [some (.ref 1), some (.int (J j)), none] [] h Q := by
  obtain ⟨d, rfl⟩ : ∃ e, d = e + 1 := ⟨d - 1, by omega⟩
  have ar := aI_rg h 2 j
  have no : ¬ wdn (aI h 2) L j → Q none (wF (wF (wF h 1 2 3) 1 5 (aI h 2 j)) 1 4 (j + 1)) := by
    intro n
    refine k _ (((Fr.rf.wF (by unfold TTk; omega)).wF (by unfold TTk; omega)).wF (by unfold TTk; omega)) ?_ ?_ ?_ ?_
    · rw [fI_wF_nk (by decide), fI_wF_nk (by decide), fI_wF_nk (by decide)]
    · rw [fI_wF_nk (by decide), fI_wF_nk (by decide), fI_wF_eq (by omega)]
    · rw [pI_neg n, fI_wF_eq (by omega)]
    · rw [pI_neg n, fI_wF_nk (by decide), fI_wF_eq ar]
  have ys : ∀ v : Int, wdn (aI h 2) L j → v = pI (aI h 2 j = 60) 256 257 → (v = 256 ∨ v = 257) → Q none (wF (wF (wF (wF (wF h 1 2 3) 1 5 (aI h 2 j)) 1 4 (j + 1)) 1 5 v) 1 4 (j + 1 + 1)) := by
    intro v w ev vr
    refine k _ (((((Fr.rf.wF (by unfold TTk; omega)).wF (by unfold TTk; omega)).wF (by unfold TTk; omega)).wF (by unfold TTk; omega)).wF (by unfold TTk; omega)) ?_ ?_ ?_ ?_
    · rw [fI_wF_nk (by decide), fI_wF_nk (by decide), fI_wF_nk (by decide), fI_wF_nk (by decide), fI_wF_nk (by decide)]
    · rw [fI_wF_nk (by decide), fI_wF_nk (by decide), fI_wF_nk (by decide), fI_wF_nk (by decide), fI_wF_eq (by omega)]
    · rw [pI_pos w, fI_wF_eq (by omega)]; omega
    · rw [pI_pos w, fI_wF_nk (by decide), fI_wF_eq (by omega)]; exact ev
  refine r28_0 C ?_
  rw [eL]
  refine ⟨by omega, fun c => ⟨by omega, fun c1 => no (fun z => by unfold wdn at z; omega), fun c1 => ⟨by omega, fun c2 => no (fun z => c2 z.2.2), fun c2 => ys 256 ⟨Or.inl c, by omega, c2⟩ (pI_pos c).symm (Or.inl rfl)⟩⟩, fun c => ⟨fun c1 => no (fun z => by rcases z.1 with z | z; exact c z; exact c1 z), fun c1 => ⟨by omega, fun c2 => no (fun z => by unfold wdn at z; omega), fun c2 => ⟨by omega, fun c3 => no (fun z => c3 z.2.2), fun c3 => ys 257 ⟨Or.inr c1, by omega, c3⟩ (pI_neg c).symm (Or.inr rfl)⟩⟩⟩⟩
section
variable {tp : Int → Int} {L : Int}
theorem skp_b {i : Int} (h0 : 0 ≤ i) (hi : i ≤ L) : i ≤ skp tp L i ∧ skp tp L i ≤ L := by
  have := rn_b (tp := tp) (L := L) (P := spP) h0
  unfold skp; omega
theorem skp_e {i : Int} (h0 : 0 ≤ i) (hi : i ≤ L) (hL : L ≤ 400) : skp tp L i < L → ¬ tp (skp tp L i) = 32 := fun a b => rn_e (tp := tp) (L := L) (P := spP) h0 hL ⟨a, b⟩
theorem skp_no {i : Int} (h0 : 0 ≤ i) (hL : L ≤ 400) (h : i < L → ¬ tp i = 32) : skp tp L i = i := rn_no h0 hL (fun z => h z.1 z.2)
theorem skp_skp {i : Int} (h0 : 0 ≤ i) (hi : i ≤ L) (hL : L ≤ 400) : skp tp L (skp tp L i) = skp tp L i := skp_no (by have := skp_b (tp := tp) h0 hi; omega) hL (skp_e h0 hi hL)
theorem skp_s {i : Int} (h0 : 0 ≤ i) (hL : L ≤ 400) (c : i < L) (s : tp i = 32) : skp tp L i = skp tp L (i + 1) := rn_s h0 hL ⟨c, s⟩
end
-- OutwardDoors$Tape.next()V at 0
set_option maxRecDepth 20000 in
set_option maxHeartbeats 4000000 in
theorem r24_0 {X : Cst} {d : Nat}  {h : AH} {Q : Post} (C_h : Lay h)
  (w : Ex X PG (d + 1) 24 5 [some (.ref 1), some (.int (J (fI h 1 4)))] [] h Q) :
    Ex X PG (d + 1) 24 0 [some (.ref 1), none] [] h Q := by
  refine wpx_ok (cut := [5, 30, 95]) 3 d 24 0 _ _ _ _ ?_
  show hs h 1 = (0, 8) ∧ Ex X PG (d + 1) 24 5 [some (.ref 1), some (.int (hF h 1 4))] [] h Q
  try simp only [aI_wAL, fI_wAL, aL_wA, aL_wF, aI_wA_ne, aI_wF_ne, fI_wA_ne, fI_wF_ne, fI_wF_nk, aL_wAL_ne, J_sameA, J_sameF, aL_same, Nat.add_left_cancel_iff, Nat.add_eq_left, Nat.left_eq_add, not_false_eq_true, Nat.reduceEqDiff, Nat.reduceAdd, J_add, J_sub, J_mul, J_neg, J_and, J_or, J_xor, J_shl, J_shr, J_div, J_i2b, J_i2l, J_l2i, J_lcm, J_max, J_min, J_nab, J_nao, rdA, rdF, rdL, wA_fold, wF_fold, wL_fold, wC_fold]
  refine ⟨(ls1 C_h), ?_⟩
  exact w
-- OutwardDoors$Tape.next()V at 5
set_option maxRecDepth 20000 in
set_option maxHeartbeats 4000000 in
theorem r24_5 {X : Cst} {d : Nat} {x1 : Int} {h : AH} {Q : Post} (C_h : Lay h)
  (w : (-2147483648 ≤ x1 ∧ x1 < 2147483648) ∧ ((fI h 1 1 ≤ x1 → Ex X PG (d + 1) 24 30 [some (.ref 1), some (.int (J x1))] [] h Q) ∧ (¬ fI h 1 1 ≤ x1 → (0 ≤ x1 ∧ x1 < 400) ∧ ((¬ aI h 2 x1 = 32 → Ex X PG (d + 1) 24 30 [some (.ref 1), some (.int (J x1))] [] h Q) ∧ (aI h 2 x1 = 32 → Ex X PG (d + 1) 24 5 [some (.ref 1), some (.int (J (x1 + 1)))] [] h Q))))) :
    Ex X PG (d + 1) 24 5 [some (.ref 1), some (.int (J x1))] [] h Q := by
  refine wpx_ok (cut := [5, 30, 95]) 12 d 24 5 _ _ _ _ ?_
  show hs h 1 = (0, 8) ∧ (((hF h 1 1) ≤ (J x1) → Ex X PG (d + 1) 24 30 [some (.ref 1), some (.int (J x1))] [] h Q) ∧ (¬ ((hF h 1 1) ≤ (J x1)) → hs h 1 = (0, 8) ∧ ∃ q4, hR h 1 0 = some q4 ∧ ((hs h q4).1 = 3 ∨ (hs h q4).1 = 4) ∧ ix (J x1) (hs h q4).2 ∧ ((¬ (hI h q4 (Int32.toNatClampNeg (J x1))) = (J 32) → Ex X PG (d + 1) 24 30 [some (.ref 1), some (.int (J x1))] [] h Q) ∧ (¬ (¬ (hI h q4 (Int32.toNatClampNeg (J x1))) = (J 32)) → Ex X PG (d + 1) 24 5 [some (.ref 1), some (.int ((J x1) + (J 1)))] [] h Q))))
  try simp only [aI_wAL, fI_wAL, aL_wA, aL_wF, aI_wA_ne, aI_wF_ne, fI_wA_ne, fI_wF_ne, fI_wF_nk, aL_wAL_ne, J_sameA, J_sameF, aL_same, Nat.add_left_cancel_iff, Nat.add_eq_left, Nat.left_eq_add, not_false_eq_true, Nat.reduceEqDiff, Nat.reduceAdd, J_add, J_sub, J_mul, J_neg, J_and, J_or, J_xor, J_shl, J_shr, J_div, J_i2b, J_i2l, J_l2i, J_lcm, J_max, J_min, J_nab, J_nao, rdA, rdF, rdL, wA_fold, wF_fold, wL_fold, wC_fold]
  refine ⟨(ls1 C_h), ?_⟩
  obtain ⟨k3, w⟩ := w
  refine ⟨fun c1 => ?_, fun c1 => ?_⟩
  · have t2 : fI h 1 1 ≤ x1 := ((Jle (rg_toInt _) k3).mp c1)
    replace w := w.1 t2
    exact w
  · have t2 : ¬ fI h 1 1 ≤ x1 := (fun e => c1 ((Jle (rg_toInt _) k3).mpr e))
    replace w := w.2 t2
    refine ⟨(ls1 C_h), _, (lr1_0 C_h), ?_⟩
    obtain ⟨k5, w⟩ := w
    refine ⟨Or.inl (congrArg Prod.fst (ls2 C_h)), ixs (ls2 C_h) k5 (by decide), ?_⟩
    refine ⟨fun c6 => ?_, fun c6 => ?_⟩
    · have t7 : ¬ aI h 2 x1 = 32 := (fun e => c6 ((Jeq (rg_toInt _) (by decide)).mpr e))
      replace w := w.1 t7
      exact w
    · have t7 : aI h 2 x1 = 32 := ((Jeq (rg_toInt _) (by decide)).mp (Classical.byContradiction c6))
      replace w := w.2 t7
      exact w
-- OutwardDoors$Tape.next()V at 30
set_option maxRecDepth 20000 in
set_option maxHeartbeats 4000000 in
theorem r24_30 {X : Cst} {d : Nat} {x1 : Int} {h : AH} {Q : Post} (C_h : Lay h) (hd : 1 ≤ d)
  (w : (-2147483648 ≤ x1 ∧ x1 < 2147483648) ∧ ((x1 < fI h 1 1 → (0 ≤ x1 ∧ x1 < 400) ∧ (-2147483648 ≤ (aI h 2 x1) ∧ (aI h 2 x1) < 2147483648) ∧ ((¬ (48 ≤ (aI h 2 x1) ∧ (aI h 2 x1) ≤ 57) → ((¬ (97 ≤ (aI h 2 x1) ∧ (aI h 2 x1) ≤ 122) → Ex X PG d 28 0 [some (.ref 1), some (.int (J x1)), none] [] (wF (wF h 1 3 x1) 1 5 0) (fun v18 h19 => v18 = none ∧ SH (wF (wF h 1 3 x1) 1 5 0) h19 ∧ Q none h19)) ∧ ((97 ≤ (aI h 2 x1) ∧ (aI h 2 x1) ≤ 122) → Ex X PG d 26 0 [some (.ref 1), some (.int (J x1)), some (.int (J 97)), some (.int (J 122)), none] [] (wF (wF (wF h 1 3 x1) 1 5 0) 1 2 2) (fun v21 h22 => ∃ r23 : Int, (-2147483648 ≤ r23 ∧ r23 < 2147483648) ∧ v21 = some (.int (J r23)) ∧ SH (wF (wF (wF h 1 3 x1) 1 5 0) 1 2 2) h22 ∧ Q none (wF h22 1 4 r23))))) ∧ ((48 ≤ (aI h 2 x1) ∧ (aI h 2 x1) ≤ 57) → Ex X PG d 26 0 [some (.ref 1), some (.int (J x1)), some (.int (J 48)), some (.int (J 57)), none] [] (wF (wF (wF h 1 3 x1) 1 5 0) 1 2 1) (fun v25 h26 => ∃ r27 : Int, (-2147483648 ≤ r27 ∧ r27 < 2147483648) ∧ v25 = some (.int (J r27)) ∧ SH (wF (wF (wF h 1 3 x1) 1 5 0) 1 2 1) h26 ∧ Ex X PG (d + 1) 24 95 [some (.ref 1), some (.int (J x1))] [] (wF h26 1 4 r27) Q)))) ∧ (¬ x1 < fI h 1 1 → Q none (wF (wF (wF (wF h 1 3 x1) 1 5 0) 1 2 0) 1 4 x1)))) :
    Ex X PG (d + 1) 24 30 [some (.ref 1), some (.int (J x1))] [] h Q := by
  refine wpx_ok (cut := [5, 30, 95]) 38 d 24 30 _ _ _ _ ?_
  show hs h 1 = (0, 8) ∧ hs (wG h 1 3 (J x1)) 1 = (0, 8) ∧ hs (wG (wG h 1 3 (J x1)) 1 5 (J 0)) 1 = (0, 8) ∧ (((J x1) < (hF (wG (wG h 1 3 (J x1)) 1 5 (J 0)) 1 1) → hs (wG (wG h 1 3 (J x1)) 1 5 (J 0)) 1 = (0, 8) ∧ ∃ q4, hR (wG (wG h 1 3 (J x1)) 1 5 (J 0)) 1 0 = some q4 ∧ ((hs (wG (wG h 1 3 (J x1)) 1 5 (J 0)) q4).1 = 3 ∨ (hs (wG (wG h 1 3 (J x1)) 1 5 (J 0)) q4).1 = 4) ∧ ix (J x1) (hs (wG (wG h 1 3 (J x1)) 1 5 (J 0)) q4).2 ∧ Ex X PG d 25 0 [some (.int (hI (wG (wG h 1 3 (J x1)) 1 5 (J 0)) q4 (Int32.toNatClampNeg (J x1)))), some (.int (J 48)), some (.int (J 57))] [] (wG (wG h 1 3 (J x1)) 1 5 (J 0)) (fun v6 h7 => ∃ r8, v6 = some (.int r8) ∧ ((r8 = (J 0) → hs h7 1 = (0, 8) ∧ ∃ q12, hR h7 1 0 = some q12 ∧ ((hs h7 q12).1 = 3 ∨ (hs h7 q12).1 = 4) ∧ ix (J x1) (hs h7 q12).2 ∧ Ex X PG d 25 0 [some (.int (hI h7 q12 (Int32.toNatClampNeg (J x1)))), some (.int (J 97)), some (.int (J 122))] [] h7 (fun v13 h14 => ∃ r15, v13 = some (.int r15) ∧ ((r15 = (J 0) → hs h14 1 = (0, 8) ∧ Ex X PG d 28 0 [some (.ref 1), some (.int (J x1)), none] [] h14 (fun v18 h19 => v18 = none ∧ Q none h19)) ∧ (¬ (r15 = (J 0)) → hs h14 1 = (0, 8) ∧ hs (wG h14 1 2 (J 2)) 1 = (0, 8) ∧ Ex X PG d 26 0 [some (.ref 1), some (.int (J x1)), some (.int (J 97)), some (.int (J 122)), none] [] (wG h14 1 2 (J 2)) (fun v21 h22 => ∃ r23, v21 = some (.int r23) ∧ hs h22 1 = (0, 8) ∧ Q none (wG h22 1 4 r23)))))) ∧ (¬ (r8 = (J 0)) → hs h7 1 = (0, 8) ∧ hs (wG h7 1 2 (J 1)) 1 = (0, 8) ∧ Ex X PG d 26 0 [some (.ref 1), some (.int (J x1)), some (.int (J 48)), some (.int (J 57)), none] [] (wG h7 1 2 (J 1)) (fun v25 h26 => ∃ r27, v25 = some (.int r27) ∧ hs h26 1 = (0, 8) ∧ Ex X PG (d + 1) 24 95 [some (.ref 1), some (.int (J x1))] [] (wG h26 1 4 r27) Q))))) ∧ (¬ ((J x1) < (hF (wG (wG h 1 3 (J x1)) 1 5 (J 0)) 1 1)) → hs (wG (wG h 1 3 (J x1)) 1 5 (J 0)) 1 = (0, 8) ∧ hs (wG (wG (wG h 1 3 (J x1)) 1 5 (J 0)) 1 2 (J 0)) 1 = (0, 8) ∧ Q none (wG (wG (wG (wG h 1 3 (J x1)) 1 5 (J 0)) 1 2 (J 0)) 1 4 (J x1))))
  try simp only [aI_wAL, fI_wAL, aL_wA, aL_wF, aI_wA_ne, aI_wF_ne, fI_wA_ne, fI_wF_ne, fI_wF_nk, aL_wAL_ne, J_sameA, J_sameF, aL_same, Nat.add_left_cancel_iff, Nat.add_eq_left, Nat.left_eq_add, not_false_eq_true, Nat.reduceEqDiff, Nat.reduceAdd, J_add, J_sub, J_mul, J_neg, J_and, J_or, J_xor, J_shl, J_shr, J_div, J_i2b, J_i2l, J_l2i, J_lcm, J_max, J_min, J_nab, J_nao, rdA, rdF, rdL, wA_fold, wF_fold, wL_fold, wC_fold]
  refine ⟨(ls1 C_h), ?_⟩
  refine ⟨(ls1 C_h), ?_⟩
  refine ⟨(ls1 C_h), ?_⟩
  obtain ⟨k3, w⟩ := w
  refine ⟨fun c1 => ?_, fun c1 => ?_⟩
  · have t2 : x1 < fI h 1 1 := ((Jlt k3 (rg_toInt _)).mp c1)
    replace w := w.1 t2
    refine ⟨(ls1 C_h), _, (lr1_0 C_h), ?_⟩
    obtain ⟨k5, w⟩ := w
    refine ⟨Or.inl (congrArg Prod.fst (ls2 C_h)), ixs (ls2 C_h) k5 (by decide), ?_⟩
    try simp only [aI_wAL, fI_wAL, aL_wA, aL_wF, aI_wA_ne, aI_wF_ne, fI_wA_ne, fI_wF_ne, fI_wF_nk, aL_wAL_ne, J_sameA, J_sameF, aL_same, Nat.add_left_cancel_iff, Nat.add_eq_left, Nat.left_eq_add, not_false_eq_true, Nat.reduceEqDiff, Nat.reduceAdd]
    obtain ⟨k9, w⟩ := w
    refine m25 (h := wF (wF h 1 3 x1) 1 5 0) (x := (aI h 2 x1)) (a := 48) (b := 57) C_h (by omega) (by first | exact k9 | (simp only [aI_wAL, fI_wAL, aL_wA, aL_wF, aI_wA_ne, aI_wF_ne, fI_wA_ne, fI_wF_ne, fI_wF_nk, aL_wAL_ne, Nat.add_left_cancel_iff, Nat.add_eq_left, Nat.left_eq_add, not_false_eq_true, Nat.reduceEqDiff]; exact k9)) (by decide) (by decide) ?_
    refine ⟨_, rfl, ?_⟩
    try simp only [aI_wAL, fI_wAL, aL_wA, aL_wF, aI_wA_ne, aI_wF_ne, fI_wA_ne, fI_wF_ne, fI_wF_nk, aL_wAL_ne, J_sameA, J_sameF, aL_same, Nat.add_left_cancel_iff, Nat.add_eq_left, Nat.left_eq_add, not_false_eq_true, Nat.reduceEqDiff, Nat.reduceAdd, J_add, J_sub, J_mul, J_neg, J_and, J_or, J_xor, J_shl, J_shr, J_div, J_i2b, J_i2l, J_l2i, J_lcm, J_max, J_min, J_nab, J_nao, rdA, rdF, rdL, wA_fold, wF_fold, wL_fold, wC_fold]
    refine ⟨fun c10 => ?_, fun c10 => ?_⟩
    · have t11 : ¬ (48 ≤ (aI h 2 x1) ∧ (aI h 2 x1) ≤ 57) := ((bI0 _).mp c10)
      replace w := w.1 t11
      refine ⟨(ls1 C_h), _, (lr1_0 C_h), ?_⟩
      refine ⟨Or.inl (congrArg Prod.fst (ls2 C_h)), ixs (ls2 C_h) k5 (by decide), ?_⟩
      try simp only [aI_wAL, fI_wAL, aL_wA, aL_wF, aI_wA_ne, aI_wF_ne, fI_wA_ne, fI_wF_ne, fI_wF_nk, aL_wAL_ne, J_sameA, J_sameF, aL_same, Nat.add_left_cancel_iff, Nat.add_eq_left, Nat.left_eq_add, not_false_eq_true, Nat.reduceEqDiff, Nat.reduceAdd]
      refine m25 (h := wF (wF h 1 3 x1) 1 5 0) (x := (aI h 2 x1)) (a := 97) (b := 122) C_h (by omega) (by first | exact k9 | (simp only [aI_wAL, fI_wAL, aL_wA, aL_wF, aI_wA_ne, aI_wF_ne, fI_wA_ne, fI_wF_ne, fI_wF_nk, aL_wAL_ne, Nat.add_left_cancel_iff, Nat.add_eq_left, Nat.left_eq_add, not_false_eq_true, Nat.reduceEqDiff]; exact k9)) (by decide) (by decide) ?_
      refine ⟨_, rfl, ?_⟩
      try simp only [aI_wAL, fI_wAL, aL_wA, aL_wF, aI_wA_ne, aI_wF_ne, fI_wA_ne, fI_wF_ne, fI_wF_nk, aL_wAL_ne, J_sameA, J_sameF, aL_same, Nat.add_left_cancel_iff, Nat.add_eq_left, Nat.left_eq_add, not_false_eq_true, Nat.reduceEqDiff, Nat.reduceAdd, J_add, J_sub, J_mul, J_neg, J_and, J_or, J_xor, J_shl, J_shr, J_div, J_i2b, J_i2l, J_l2i, J_lcm, J_max, J_min, J_nab, J_nao, rdA, rdF, rdL, wA_fold, wF_fold, wL_fold, wC_fold]
      refine ⟨fun c16 => ?_, fun c16 => ?_⟩
      · have t17 : ¬ (97 ≤ (aI h 2 x1) ∧ (aI h 2 x1) ≤ 122) := ((bI0 _).mp c16)
        replace w := w.1 t17
        refine ⟨(ls1 C_h), ?_⟩
        refine Ex.mono w (Nat.le_refl _) ?_
        rintro v18 h19 ⟨rfl, s20, w⟩
        refine ⟨rfl, ?_⟩
        have C_h19 := Lay_SH s20 C_h
        try simp only [aI_wAL, fI_wAL, aL_wA, aL_wF, aI_wA_ne, aI_wF_ne, fI_wA_ne, fI_wF_ne, fI_wF_nk, aL_wAL_ne, J_sameA, J_sameF, aL_same, Nat.add_left_cancel_iff, Nat.add_eq_left, Nat.left_eq_add, not_false_eq_true, Nat.reduceEqDiff, Nat.reduceAdd, J_add, J_sub, J_mul, J_neg, J_and, J_or, J_xor, J_shl, J_shr, J_div, J_i2b, J_i2l, J_l2i, J_lcm, J_max, J_min, J_nab, J_nao, rdA, rdF, rdL, wA_fold, wF_fold, wL_fold, wC_fold]
        exact w
      · have t17 : (97 ≤ (aI h 2 x1) ∧ (aI h 2 x1) ≤ 122) := (Classical.byContradiction fun n => c16 ((bI0 _).mpr n))
        replace w := w.2 t17
        refine ⟨(ls1 C_h), ?_⟩
        refine ⟨(ls1 C_h), ?_⟩
        refine Ex.mono w (Nat.le_refl _) ?_
        rintro v21 h22 ⟨r23, gr23, rfl, s24, w⟩
        refine ⟨_, rfl, ?_⟩
        have C_h22 := Lay_SH s24 C_h
        try simp only [aI_wAL, fI_wAL, aL_wA, aL_wF, aI_wA_ne, aI_wF_ne, fI_wA_ne, fI_wF_ne, fI_wF_nk, aL_wAL_ne, J_sameA, J_sameF, aL_same, Nat.add_left_cancel_iff, Nat.add_eq_left, Nat.left_eq_add, not_false_eq_true, Nat.reduceEqDiff, Nat.reduceAdd, J_add, J_sub, J_mul, J_neg, J_and, J_or, J_xor, J_shl, J_shr, J_div, J_i2b, J_i2l, J_l2i, J_lcm, J_max, J_min, J_nab, J_nao, rdA, rdF, rdL, wA_fold, wF_fold, wL_fold, wC_fold]
        refine ⟨(ls1 C_h22), ?_⟩
        exact w
    · have t11 : (48 ≤ (aI h 2 x1) ∧ (aI h 2 x1) ≤ 57) := (Classical.byContradiction fun n => c10 ((bI0 _).mpr n))
      replace w := w.2 t11
      refine ⟨(ls1 C_h), ?_⟩
      refine ⟨(ls1 C_h), ?_⟩
      refine Ex.mono w (Nat.le_refl _) ?_
      rintro v25 h26 ⟨r27, gr27, rfl, s28, w⟩
      refine ⟨_, rfl, ?_⟩
      have C_h26 := Lay_SH s28 C_h
      try simp only [aI_wAL, fI_wAL, aL_wA, aL_wF, aI_wA_ne, aI_wF_ne, fI_wA_ne, fI_wF_ne, fI_wF_nk, aL_wAL_ne, J_sameA, J_sameF, aL_same, Nat.add_left_cancel_iff, Nat.add_eq_left, Nat.left_eq_add, not_false_eq_true, Nat.reduceEqDiff, Nat.reduceAdd, J_add, J_sub, J_mul, J_neg, J_and, J_or, J_xor, J_shl, J_shr, J_div, J_i2b, J_i2l, J_l2i, J_lcm, J_max, J_min, J_nab, J_nao, rdA, rdF, rdL, wA_fold, wF_fold, wL_fold, wC_fold]
      refine ⟨(ls1 C_h26), ?_⟩
      exact w
  · have t2 : ¬ x1 < fI h 1 1 := (fun e => c1 ((Jlt k3 (rg_toInt _)).mpr e))
    replace w := w.2 t2
    refine ⟨(ls1 C_h), ?_⟩
    refine ⟨(ls1 C_h), ?_⟩
    exact w
-- OutwardDoors$Tape.next()V at 95
set_option maxRecDepth 20000 in
set_option maxHeartbeats 4000000 in
theorem r24_95 {X : Cst} {d : Nat} {x1 : Int} {h : AH} {Q : Post} (C_h : Lay h)
  (w : (-2147483648 ≤ (fI h 1 4) - x1 ∧ (fI h 1 4) - x1 < 2147483648) ∧ (((fI h 1 4) - x1 ≤ 5 → Ex X PG d 27 0 [some (.ref 1), some (.int (J x1)), some (.int (J (fI h 1 4))), none, none] [] h (fun v4 h5 => ∃ r6 : Int, (-2147483648 ≤ r6 ∧ r6 < 2147483648) ∧ v4 = some (.int (J r6)) ∧ SH h h5 ∧ Q none (wF h5 1 5 r6))) ∧ (¬ (fI h 1 4) - x1 ≤ 5 → Q none (wF h 1 5 (-1))))) :
    Ex X PG (d + 1) 24 95 [some (.ref 1), some (.int (J x1))] [] h Q := by
  refine wpx_ok (cut := [5, 30, 95]) 15 d 24 95 _ _ _ _ ?_
  show hs h 1 = (0, 8) ∧ ((((hF h 1 4) - (J x1)) ≤ (J 5) → hs h 1 = (0, 8) ∧ hs h 1 = (0, 8) ∧ Ex X PG d 27 0 [some (.ref 1), some (.int (J x1)), some (.int (hF h 1 4)), none, none] [] h (fun v4 h5 => ∃ r6, v4 = some (.int r6) ∧ hs h5 1 = (0, 8) ∧ Q none (wG h5 1 5 r6))) ∧ (¬ (((hF h 1 4) - (J x1)) ≤ (J 5)) → hs h 1 = (0, 8) ∧ Q none (wG h 1 5 (J (-1)))))
  try simp only [aI_wAL, fI_wAL, aL_wA, aL_wF, aI_wA_ne, aI_wF_ne, fI_wA_ne, fI_wF_ne, fI_wF_nk, aL_wAL_ne, J_sameA, J_sameF, aL_same, Nat.add_left_cancel_iff, Nat.add_eq_left, Nat.left_eq_add, not_false_eq_true, Nat.reduceEqDiff, Nat.reduceAdd, J_add, J_sub, J_mul, J_neg, J_and, J_or, J_xor, J_shl, J_shr, J_div, J_i2b, J_i2l, J_l2i, J_lcm, J_max, J_min, J_nab, J_nao, rdA, rdF, rdL, wA_fold, wF_fold, wL_fold, wC_fold]
  refine ⟨(ls1 C_h), ?_⟩
  obtain ⟨k3, w⟩ := w
  refine ⟨fun c1 => ?_, fun c1 => ?_⟩
  · have t2 : (fI h 1 4) - x1 ≤ 5 := ((Jle k3 (by decide)).mp c1)
    replace w := w.1 t2
    refine ⟨(ls1 C_h), ?_⟩
    refine ⟨(ls1 C_h), ?_⟩
    refine Ex.mono w (Nat.le_refl _) ?_
    rintro v4 h5 ⟨r6, gr6, rfl, s7, w⟩
    refine ⟨_, rfl, ?_⟩
    have C_h5 := Lay_SH s7 C_h
    try simp only [aI_wAL, fI_wAL, aL_wA, aL_wF, aI_wA_ne, aI_wF_ne, fI_wA_ne, fI_wF_ne, fI_wF_nk, aL_wAL_ne, J_sameA, J_sameF, aL_same, Nat.add_left_cancel_iff, Nat.add_eq_left, Nat.left_eq_add, not_false_eq_true, Nat.reduceEqDiff, Nat.reduceAdd, J_add, J_sub, J_mul, J_neg, J_and, J_or, J_xor, J_shl, J_shr, J_div, J_i2b, J_i2l, J_l2i, J_lcm, J_max, J_min, J_nab, J_nao, rdA, rdF, rdL, wA_fold, wF_fold, wL_fold, wC_fold]
    refine ⟨(ls1 C_h5), ?_⟩
    exact w
  · have t2 : ¬ (fI h 1 4) - x1 ≤ 5 := (fun e => c1 ((Jle k3 (by decide)).mpr e))
    replace w := w.2 t2
    refine ⟨(ls1 C_h), ?_⟩
    exact w
theorem m24 {X : Cst} {d : Nat} {i L f : Int} {tp : Int → Int} {h : AH} {Q : Post} (C : Lay h) (hd : 2 ≤ d) (et : aI h 2 = tp) (eL : fI h 1 1 = L) (hL : L ≤ 400) (es : fI h 1 4 = i) (ef : fI h 1 6 = f) (i0 : 0 ≤ i ∧ i ≤ L) (k : ∀ h', Fr TTk h h' → TkC h' tp L (skp tp L i) f → Q none h') : Ex X PG d 24 0 [some (.ref 1), none] [] h Q := by
  obtain ⟨d, rfl⟩ : ∃ e, d = e + 1 := ⟨d - 1, by omega⟩
  have sb := skp_b (tp := tp) i0.1 i0.2
  have fin : Ex X PG (d + 1) 24 30 [some (.ref 1), some (.int (J (skp tp L i)))] [] h Q := by
    generalize ej : skp tp L i = j at k sb
    have ar := aI_rg h 2 j
    have F2 : Fr TTk h (wF (wF h 1 3 j) 1 5 0) := (Fr.rf.wF (by unfold TTk; omega)).wF (by unfold TTk; omega)
    have F3 : ∀ v, Fr TTk h (wF (wF (wF h 1 3 j) 1 5 0) 1 2 v) := fun v => F2.wF (by unfold TTk; omega)
    have fin : ∀ h', Fr TTk h h' → fI h' 1 3 = j → fI h' 1 2 = tkK tp L j → fI h' 1 4 = tkS tp L j → fI h' 1 5 = tkV tp L j → Q none h' := by
      intro h' F e3 e2 e4 e5
      refine k h' F ⟨(F.a 2 (fun k => by unfold TTk; omega)).trans et, ⟨(F.f 1 1 (by unfold TTk; omega)).trans eL, by omega, hL⟩, by omega, e3, e2, e4, e5, (F.f 1 6 (by unfold TTk; omega)).trans ef⟩
    have rb : ∀ P : Int → Prop, j ≤ rn tp L P j ∧ rn tp L P j ≤ L := fun P => by have := rn_b (tp := tp) (L := L) (P := P) (i := j) (by omega); omega
    refine r24_30 C (by omega) ?_
    rw [eL, et]
    refine ⟨by omega, fun c => ⟨by omega, by rw [et] at ar; exact ar, fun c1 => ⟨fun c2 => ?_, fun c2 => ?_⟩, fun c1 => ?_⟩, fun c => ?_⟩
    · have nL : ¬ L ≤ j := by omega
      refine m28 (L := L) (F2.C C) (by omega) ((F2.f 1 1 (by unfold TTk; omega)).trans eL) hL (by omega) (fun h' F e3 e2 e4 e5 => ⟨rfl, F.1, ?_⟩)
      have e2a : aI (wF (wF h 1 3 j) 1 5 0) 2 = tp := by rw [aI_wF_ne (by decide), aI_wF_ne (by decide)]; exact et
      rw [e2a] at e4 e5
      refine fin h' (F2.tr F) ?_ ?_ ?_ ?_
      · rw [e3, fI_wF_nk (by decide), fI_wF_eq (by omega)]
      · rw [e2]; unfold tkK; rw [pI_neg nL, pI_neg (P := dgP (tp j)) c1, pI_neg (P := leP (tp j)) c2]
      · rw [e4]; unfold tkS; rw [pI_neg nL, pI_neg (P := dgP (tp j)) c1, pI_neg (P := leP (tp j)) c2]
      · rw [e5]; unfold tkV; rw [pI_neg nL, pI_neg (P := dgP (tp j)) c1, pI_neg (P := leP (tp j)) c2]
    · have nL : ¬ L ≤ j := by omega
      refine m26 (L := L) ((F3 2).C C) (by omega) (((F3 2).f 1 1 (by unfold TTk; omega)).trans eL) hL (by omega) (by omega) (by omega) ⟨_, ?_, rfl, SH.rf, ?_⟩
      · have := rn_b (tp := aI (wF (wF (wF h 1 3 j) 1 5 0) 1 2 2) 2) (L := L) (P := fun c => 97 ≤ c ∧ c ≤ 122) (i := j) (by omega); omega
      have e2a : aI (wF (wF (wF h 1 3 j) 1 5 0) 1 2 2) 2 = tp := by rw [aI_wF_ne (by decide), aI_wF_ne (by decide), aI_wF_ne (by decide)]; exact et
      rw [e2a]
      have rr := rb (fun c => 97 ≤ c ∧ c ≤ 122)
      refine fin _ ((F3 2).wF (by unfold TTk; omega)) ?_ ?_ ?_ ?_
      · rw [fI_wF_nk (by decide), fI_wF_nk (by decide), fI_wF_nk (by decide), fI_wF_eq (by omega)]
      · rw [fI_wF_nk (by decide), fI_wF_eq (by omega)]; unfold tkK; rw [pI_neg nL, pI_neg (P := dgP (tp j)) c1, pI_pos (P := leP (tp j)) c2]
      · rw [fI_wF_eq (by omega)]; unfold tkS; rw [pI_neg nL, pI_neg (P := dgP (tp j)) c1, pI_pos (P := leP (tp j)) c2]; rfl
      · rw [fI_wF_nk (by decide), fI_wF_nk (by decide), fI_wF_eq (by omega)]; unfold tkV; rw [pI_neg nL, pI_neg (P := dgP (tp j)) c1, pI_pos (P := leP (tp j)) c2]
    · have nL : ¬ L ≤ j := by omega
      refine m26 (L := L) ((F3 1).C C) (by omega) (((F3 1).f 1 1 (by unfold TTk; omega)).trans eL) hL (by omega) (by omega) (by omega) ⟨_, ?_, rfl, SH.rf, ?_⟩
      · have := rn_b (tp := aI (wF (wF (wF h 1 3 j) 1 5 0) 1 2 1) 2) (L := L) (P := fun c => 48 ≤ c ∧ c ≤ 57) (i := j) (by omega); omega
      have e2a : aI (wF (wF (wF h 1 3 j) 1 5 0) 1 2 1) 2 = tp := by rw [aI_wF_ne (by decide), aI_wF_ne (by decide), aI_wF_ne (by decide)]; exact et
      rw [e2a]
      have rr := rb (fun c => 48 ≤ c ∧ c ≤ 57)
      have er : rn tp L (fun c => 48 ≤ c ∧ c ≤ 57) j = rn tp L dgP j := rfl
      have F4 : Fr TTk h (wF (wF (wF (wF h 1 3 j) 1 5 0) 1 2 1) 1 4 (rn tp L (fun c => 48 ≤ c ∧ c ≤ 57) j)) := (F3 1).wF (by unfold TTk; omega)
      have nb := numV_b (tp := tp) (L := L) (j := j) (by omega)
      have go : ∀ v, v = numV tp L j → Q none (wF (wF (wF (wF (wF h 1 3 j) 1 5 0) 1 2 1) 1 4 (rn tp L (fun c => 48 ≤ c ∧ c ≤ 57) j)) 1 5 v) := by
        intro v ev
        refine fin _ (F4.wF (by unfold TTk; omega)) ?_ ?_ ?_ ?_
        · rw [fI_wF_nk (by decide), fI_wF_nk (by decide), fI_wF_nk (by decide), fI_wF_nk (by decide), fI_wF_eq (by omega)]
        · rw [fI_wF_nk (by decide), fI_wF_nk (by decide), fI_wF_eq (by omega)]; unfold tkK; rw [pI_neg nL, pI_pos (P := dgP (tp j)) c1]
        · rw [fI_wF_nk (by decide), fI_wF_eq (by omega)]; unfold tkS; rw [pI_neg nL, pI_pos (P := dgP (tp j)) c1]; rfl
        · rw [fI_wF_eq (by omega)]; unfold tkV; rw [pI_neg nL, pI_pos (P := dgP (tp j)) c1]; exact ev
      have e4 : fI (wF (wF (wF (wF h 1 3 j) 1 5 0) 1 2 1) 1 4 (rn tp L (fun c => 48 ≤ c ∧ c ≤ 57) j)) 1 4 = rn tp L (fun c => 48 ≤ c ∧ c ≤ 57) j := fI_wF_eq (by omega)
      refine r24_95 (F4.C C) ?_
      rw [e4]
      refine ⟨by omega, fun c3 => ?_, fun c3 => ?_⟩
      · refine m27 (F4.C C) (by omega) (by omega) (by omega) ?_
        have e4a : aI (wF (wF (wF (wF h 1 3 j) 1 5 0) 1 2 1) 1 4 (rn tp L (fun c => 48 ≤ c ∧ c ≤ 57) j)) 2 = tp := by rw [aI_wF_ne (by decide)]; exact e2a
        rw [e4a]
        have ev : nvN tp j (rn tp L (fun c => 48 ≤ c ∧ c ≤ 57) j - j).toNat = numV tp L j := by unfold numV; rw [← er, if_pos c3]
        rw [ev]
        exact ⟨_, by omega, rfl, SH.rf, go _ rfl⟩
      · refine go _ ?_
        unfold numV; rw [← er, if_neg c3]
    · have nL : L ≤ j := by omega
      refine fin _ (((F2.wF (by unfold TTk; omega))).wF (by unfold TTk; omega)) ?_ ?_ ?_ ?_
      · rw [fI_wF_nk (by decide), fI_wF_nk (by decide), fI_wF_nk (by decide), fI_wF_eq (by omega)]
      · rw [fI_wF_nk (by decide), fI_wF_eq (by omega)]; unfold tkK; rw [pI_pos nL]
      · rw [fI_wF_eq (by omega)]; unfold tkS; rw [pI_pos nL]
      · rw [fI_wF_nk (by decide), fI_wF_nk (by decide), fI_wF_eq (by omega)]; unfold tkV; rw [pI_pos nL]
  have lp : ∀ (z : Nat) (m : Int), 401 - m = z → 0 ≤ m → m ≤ L → skp tp L m = skp tp L i → Ex X PG (d + 1) 24 5 [some (.ref 1), some (.int (J m))] [] h Q := by
    intro z
    induction z with
    | zero => intro m e; omega
    | succ z ih =>
      intro m e m0 m1 em
      have st : (m < L → ¬ tp m = 32) → Ex X PG (d + 1) 24 30 [some (.ref 1), some (.int (J m))] [] h Q := by
        intro n
        rw [← em, skp_no m0 hL n] at fin; exact fin
      refine r24_5 C ?_
      rw [eL, et]
      refine ⟨by omega, fun c => st (fun z => by omega), fun c => ⟨by omega, fun c2 => st (fun _ => c2), fun c2 => ?_⟩⟩
      refine ih (m + 1) (by omega) (by omega) (by omega) ?_
      rw [← em]; exact (skp_s m0 hL (by omega) c2).symm
  refine r24_0 C ?_
  rw [es]
  exact lp (401 - i).toNat i (by omega) i0.1 i0.2 rfl
