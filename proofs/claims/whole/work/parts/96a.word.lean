/-! WORDS on the tape. -/
/-- a row of signs as a number to the base 256 -/
def cdN (f : Nat → Int) : Nat → Int
  | 0 => 0
  | n + 1 => cdN f n * 256 + f n
theorem cdN_b {f : Nat → Int} : ∀ n : Nat, (∀ k, k < n → 1 ≤ f k ∧ f k < 256) → 0 ≤ cdN f n ∧ cdN f n < 256 ^ n := by
  intro n
  induction n with
  | zero => intro _; exact ⟨Int.le_refl 0, by rw [Int.pow_zero]; show (0 : Int) < 1; decide⟩
  | succ n ih =>
    intro h
    have a := ih (fun k hk => h k (by omega))
    have d := h n (by omega)
    show 0 ≤ cdN f n * 256 + f n ∧ cdN f n * 256 + f n < 256 ^ (n + 1)
    rw [Int.pow_succ]
    omega
theorem cdN_inj {f g : Nat → Int} : ∀ n m : Nat, (∀ k, k < n → 1 ≤ f k ∧ f k < 256) → (∀ k, k < m → 1 ≤ g k ∧ g k < 256) → cdN f n = cdN g m → n = m ∧ ∀ k, k < n → f k = g k := by
  intro n
  induction n with
  | zero =>
    intro m hf hg e
    cases m with
    | zero => exact ⟨rfl, fun k hk => by omega⟩
    | succ m =>
      have b := cdN_b m (fun k hk => hg k (by omega))
      have d := hg m (by omega)
      have e' : (0 : Int) = cdN g m * 256 + g m := e
      omega
  | succ n ih =>
    intro m hf hg e
    cases m with
    | zero =>
      have b := cdN_b n (fun k hk => hf k (by omega))
      have d := hf n (by omega)
      have e' : cdN f n * 256 + f n = (0 : Int) := e
      omega
    | succ m =>
      have e' : cdN f n * 256 + f n = cdN g m * 256 + g m := e
      have df := hf n (by omega)
      have dg := hg m (by omega)
      have bf := cdN_b n (fun k hk => hf k (by omega))
      have bg := cdN_b m (fun k hk => hg k (by omega))
      have r := ih m (fun k hk => hf k (by omega)) (fun k hk => hg k (by omega)) (by omega)
      obtain ⟨r1, r2⟩ := r
      subst r1
      refine ⟨rfl, fun k hk => ?_⟩
      by_cases c : k = n
      · rw [c]; omega
      · exact r2 k (by omega)
theorem cdN_c {f g : Nat → Int} : ∀ n : Nat, (∀ k, k < n → f k = g k) → cdN f n = cdN g n := by
  intro n
  induction n with
  | zero => intro _; rfl
  | succ n ih =>
    intro h
    show cdN f n * 256 + f n = cdN g n * 256 + g n
    rw [ih (fun k hk => h k (by omega)), h n (by omega)]
/-- the word at j as a number, -1 if none or longer than seven -/
noncomputable def wc (tp : Int → Int) (L j : Int) : Int := if 0 < rn tp L leP j - j ∧ rn tp L leP j - j < 8 then cdN (fun k => tp (j + k)) (rn tp L leP j - j).toNat else -1
def wSt (s k : Nat) : Int := (X2.2.2 s k).toInt
def wSc (s : Nat) : Int := cdN (wSt s) (X2.2.1 s)
theorem wS_ok : ∀ s, s < 20 → s < X2.1 ∧ 0 < X2.2.1 s ∧ X2.2.1 s < 8 ∧ ∀ k, k < X2.2.1 s → 1 ≤ wSt s k ∧ wSt s k < 256 := by
  have a : ∀ s, s < 20 → s < X2.1 ∧ 0 < X2.2.1 s ∧ X2.2.1 s < 8 := by decide
  have b : ∀ s, s < 20 → ∀ k, k < 8 → k < X2.2.1 s → 1 ≤ wSt s k ∧ wSt s k < 256 := by decide
  exact fun s h => ⟨(a s h).1, (a s h).2.1, (a s h).2.2, fun k hk => b s h k (by have := (a s h).2.2; omega) hk⟩
theorem wc_pos {tp : Int → Int} {L j : Int} (h0 : 0 ≤ j) (hj : j ≤ L) {w : Int} (hw : 0 < w) (e : wc tp L j = w) : j < L ∧ leP (tp j) ∧ 0 < rn tp L leP j - j := by
  have b := rn_b (tp := tp) (L := L) (P := leP) h0
  unfold wc at e
  by_cases c : 0 < rn tp L leP j - j ∧ rn tp L leP j - j < 8
  · have := b.2.2 j (Int.le_refl _) (by omega)
    exact ⟨this.1, this.2, c.1⟩
  · rw [if_neg c] at e; omega
theorem wc_is {tp : Int → Int} {L j : Int} (h0 : 0 ≤ j) (hL : j < L ∧ L ≤ 400) (l : leP (tp j)) {s : Nat} (hs : s < 20) : (wc tp L j = wSc s ↔ (rn tp L leP j - j = (X2.2.1 s : Int) ∧ ∀ k : Nat, k < X2.2.1 s → tp (j + k) = wSt s k)) := by
  have b := rn_b (tp := tp) (L := L) (P := leP) h0
  have o := wS_ok s hs
  have lp : ∀ k : Nat, k < (rn tp L leP j - j).toNat → 1 ≤ tp (j + k) ∧ tp (j + k) < 256 := fun k hk => by
    have := (b.2.2 (j + k) (by omega) (by omega)).2
    unfold leP at this; omega
  have wb := cdN_b (X2.2.1 s) o.2.2.2
  unfold wc
  constructor
  · intro e
    by_cases c : 0 < rn tp L leP j - j ∧ rn tp L leP j - j < 8
    · rw [if_pos c] at e
      have := cdN_inj _ _ lp o.2.2.2 e
      exact ⟨by omega, fun k hk => this.2 k (by omega)⟩
    · rw [if_neg c] at e
      unfold wSc at e; omega
  · intro ⟨e1, e2⟩
    rw [if_pos (by omega), show (rn tp L leP j - j).toNat = X2.2.1 s by omega]
    exact cdN_c _ e2
-- OutwardDoors$Tape.isWord(Ljava/lang/String;)Z at 0
set_option maxRecDepth 20000 in
set_option maxHeartbeats 4000000 in
theorem r31_0 {X : Cst} {d : Nat} {s1 : Nat} {h : AH} {Q : Post} (C_h : Lay h)
  (w : ((¬ fI h 1 2 = 2 → Q (some (.int (J 0))) h) ∧ (fI h 1 2 = 2 → s1 < X.2.1 ∧ (-2147483648 ≤ (fI h 1 4) - (fI h 1 3) ∧ (fI h 1 4) - (fI h 1 3) < 2147483648) ∧ (-2147483648 ≤ (X.2.2.1 s1 : Int) ∧ (X.2.2.1 s1 : Int) < 2147483648) ∧ (((fI h 1 4) - (fI h 1 3) = (X.2.2.1 s1 : Int) → Ex X PG (d + 1) 31 28 [some (.ref 1), some (.retAddr s1), some (.int (J 0))] [] h Q) ∧ (¬ (fI h 1 4) - (fI h 1 3) = (X.2.2.1 s1 : Int) → Q (some (.int (J 0))) h))))) :
    Ex X PG (d + 1) 31 0 [some (.ref 1), some (.retAddr s1), none] [] h Q := by
  refine wpx_ok (cut := [28]) 14 d 31 0 _ _ _ _ ?_
  show hs h 1 = (0, 8) ∧ ((¬ (hF h 1 2) = (J 2) → (J 0 = J 0 ∨ J 0 = J 1) ∧ Q (some (.int (J 0))) h) ∧ (¬ (¬ (hF h 1 2) = (J 2)) → hs h 1 = (0, 8) ∧ hs h 1 = (0, 8) ∧ s1 < X.2.1 ∧ ((((hF h 1 4) - (hF h 1 3)) = (nI (X.2.2.1 s1)) → Ex X PG (d + 1) 31 28 [some (.ref 1), some (.retAddr s1), some (.int (J 0))] [] h Q) ∧ (¬ (((hF h 1 4) - (hF h 1 3)) = (nI (X.2.2.1 s1))) → (J 0 = J 0 ∨ J 0 = J 1) ∧ Q (some (.int (J 0))) h))))
  try simp only [aI_wAL, fI_wAL, aL_wA, aL_wF, aI_wA_ne, aI_wF_ne, fI_wA_ne, fI_wF_ne, fI_wF_nk, aL_wAL_ne, J_sameA, J_sameF, aL_same, Nat.add_left_cancel_iff, Nat.add_eq_left, Nat.left_eq_add, not_false_eq_true, Nat.reduceEqDiff, Nat.reduceAdd, J_add, J_sub, J_mul, J_neg, J_and, J_or, J_xor, J_shl, J_shr, J_div, J_i2b, J_i2l, J_l2i, J_lcm, J_max, J_min, J_nab, J_nao, rdA, rdF, rdL, wA_fold, wF_fold, wL_fold, wC_fold]
  refine ⟨(ls1 C_h), ?_⟩
  refine ⟨fun c1 => ?_, fun c1 => ?_⟩
  · have t2 : ¬ fI h 1 2 = 2 := (fun e => c1 ((Jeq (rg_toInt _) (by decide)).mpr e))
    replace w := w.1 t2
    exact ⟨(Or.inl (by trivial)), w⟩
  · have t2 : fI h 1 2 = 2 := ((Jeq (rg_toInt _) (by decide)).mp (Classical.byContradiction c1))
    replace w := w.2 t2
    refine ⟨(ls1 C_h), ?_⟩
    refine ⟨(ls1 C_h), ?_⟩
    obtain ⟨k3, w⟩ := w
    refine ⟨k3, ?_⟩
    simp only [J_nI, aI_wAL, fI_wAL, aL_wA, aL_wF, aI_wA_ne, aI_wF_ne, fI_wA_ne, fI_wF_ne, fI_wF_nk, aL_wAL_ne, J_sameA, J_sameF, aL_same, Nat.add_left_cancel_iff, Nat.add_eq_left, Nat.left_eq_add, not_false_eq_true, Nat.reduceEqDiff, Nat.reduceAdd, J_add, J_sub, J_mul, J_neg, J_and, J_or, J_xor, J_shl, J_shr, J_div, J_i2b, J_i2l, J_l2i, J_lcm, J_max, J_min, J_nab, J_nao, rdA, rdF, rdL, wA_fold, wF_fold, wL_fold, wC_fold]
    obtain ⟨k6, w⟩ := w
    obtain ⟨k7, w⟩ := w
    refine ⟨fun c4 => ?_, fun c4 => ?_⟩
    · have t5 : (fI h 1 4) - (fI h 1 3) = (X.2.2.1 s1 : Int) := ((Jeq k6 k7).mp c4)
      replace w := w.1 t5
      exact w
    · have t5 : ¬ (fI h 1 4) - (fI h 1 3) = (X.2.2.1 s1 : Int) := (fun e => c4 ((Jeq k6 k7).mpr e))
      replace w := w.2 t5
      exact ⟨(Or.inl (by trivial)), w⟩
theorem v31_28 {X : Cst} {d : Nat} {a : Nat} {a1 : Nat} {x2 : Int32} {h : AH} {Q : Post}
  (w : a1 < X.2.1 ∧ ((nI (X.2.2.1 a1) ≤ x2 →
      ((1 : Int32) = 0 ∨ (1 : Int32) = 1) ∧ Q (some (.int 1)) h) ∧
    (¬ (nI (X.2.2.1 a1) ≤ x2) →
      hs h a = (0, 8) ∧ ∃ q1, hR h a 0 = some q1 ∧ hs h a = (0, 8) ∧ ((hs h q1).1 = 3 ∨ (hs h q1).1 = 4) ∧ ix ((hI h a 3) + x2) (hs h q1).2 ∧ a1 < X.2.1 ∧ ix x2 (X.2.2.1 a1) ∧ ((hI h q1 (Int32.toNatClampNeg ((hI h a 3) + x2)) = X.2.2.2 a1 (Int32.toNatClampNeg x2) →
        Ex X PG (d + 1) 31 28 [some (.ref a), some (.retAddr a1), some (.int (x2 + 1))] [] h Q) ∧
      (¬ (hI h q1 (Int32.toNatClampNeg ((hI h a 3) + x2)) = X.2.2.2 a1 (Int32.toNatClampNeg x2)) →
        ((0 : Int32) = 0 ∨ (0 : Int32) = 1) ∧ Q (some (.int 0)) h))))) :
    Ex X PG (d + 1) 31 28 [some (.ref a), some (.retAddr a1), some (.int x2)] [] h Q := wpx_ok (cut := [28]) 17 d 31 28 _ _ _ _ w
theorem q31_28 {X : Cst} {d s i : Nat} {j : Int} {tp : Int → Int} {h : AH} {Q : Post} (C : Lay h) (hX : X.2 = X2) (et : aI h 2 = tp) (e3 : fI h 1 3 = j) (hs : s < 20) (hi : i ≤ X2.2.1 s) (hj : 0 ≤ j ∧ j + X2.2.1 s ≤ 400)
    (k1 : X2.2.1 s ≤ i → Q (some (.int (J 1))) h) (k2 : i < X2.2.1 s → tp (j + i) = wSt s i → Ex X PG (d + 1) 31 28 [some (.ref 1), some (.retAddr s), some (.int (J (i + 1)))] [] h Q) (k3 : i < X2.2.1 s → ¬ tp (j + i) = wSt s i → Q (some (.int (J 0))) h) : Ex X PG (d + 1) 31 28 [some (.ref 1), some (.retAddr s), some (.int (J i))] [] h Q := by
  have o := wS_ok s hs
  refine v31_28 ?_
  rw [hX, J_nI, Jle (by omega) (by omega)]
  refine ⟨o.1, fun c => ⟨Or.inr rfl, k1 (by omega)⟩, fun c => ⟨ls1 C, 2, lr1_0 C, ls1 C, Or.inl (by rw [ls2 C]), ?_⟩⟩
  have e : hI h 1 3 = J j := by rw [← e3]; exact (J_toInt _).symm
  have ea : hI h 2 (tn (j + i)) = J (tp (j + i)) := by rw [← et]; exact (J_toInt _).symm
  have ec : X2.2.2 s (tn i) = J (wSt s i) := by rw [tn_eq (by omega)]; exact (J_toInt _).symm
  have ar := aI_rg h 2 (j + i)
  rw [et] at ar
  have o1 := o.2.2.2 i (by omega)
  rw [e, J_add, ea, ec, Jeq ar (by omega)]
  refine ⟨ixs (ls2 C) (by omega) (by decide), o.1, ?_, fun c2 => by have q := k2 (by omega) c2; rw [← J_add] at q; exact q, fun c2 => ⟨Or.inl rfl, k3 (by omega) c2⟩⟩
  exact ixn (by omega) (by omega)
theorem m31 {X : Cst} {d s : Nat} {L j f : Int} {tp : Int → Int} {h : AH} {Q : Post} (C : Lay h) (hd : 1 ≤ d) (hX : X.2 = X2) (T : TkC h tp L j f) (hs : s < 20) (k : Q (some (.int (J (bI (wc tp L j = wSc s))))) h) : Ex X PG d 31 0 [some (.ref 1), some (.retAddr s), none] [] h Q := by
  obtain ⟨d, rfl⟩ : ∃ e, d = e + 1 := ⟨d - 1, by omega⟩
  obtain ⟨et, eL, hj, e3, e2, e4, e5, e6⟩ := T
  have o := wS_ok s hs
  have wb := cdN_b (X2.2.1 s) o.2.2.2
  have ws : 0 < wSc s := by
    have : wSc s = cdN (wSt s) (X2.2.1 s - 1 + 1) := by unfold wSc; rw [show X2.2.1 s - 1 + 1 = X2.2.1 s by omega]
    have o1 := o.2.2.2 (X2.2.1 s - 1) (by omega)
    have := cdN_b (X2.2.1 s - 1) (fun k hk => o.2.2.2 k (by omega))
    rw [‹wSc s = _›]
    show 0 < cdN (wSt s) (X2.2.1 s - 1) * 256 + wSt s (X2.2.1 s - 1)
    omega
  have x1 : X.2.1 = X2.1 := by rw [hX]
  have x2 : X.2.2.1 s = X2.2.1 s := by rw [hX]
  have x3 : ∀ i, (X.2.2.2 s i).toInt = wSt s i := fun i => by rw [hX]; rfl
  refine r31_0 C ?_
  rw [e2, e4, e3, x1, x2]
  have kd : tkK tp L j = 2 → j < L ∧ leP (tp j) ∧ ¬ dgP (tp j) := by
    intro e
    unfold tkK at e
    by_cases c1 : L ≤ j
    · rw [pI_pos c1] at e; omega
    rw [pI_neg c1] at e
    by_cases c2 : dgP (tp j)
    · rw [pI_pos c2] at e; omega
    rw [pI_neg c2] at e
    by_cases c3 : leP (tp j)
    · exact ⟨by omega, c3, c2⟩
    · rw [pI_neg c3] at e; omega
  refine ⟨fun c => ?_, fun c => ?_⟩
  · rw [bI_neg] at k
    · exact k
    · intro e
      have := wc_pos hj.1 hj.2 ws e
      refine c ?_
      unfold tkK
      rw [pI_neg (by omega), pI_neg (by have := this.2.1; unfold leP at this; unfold dgP; omega), pI_pos this.2.1]
  · obtain ⟨jL, jl, jd⟩ := kd c
    have es : tkS tp L j = rn tp L leP j := by unfold tkS; rw [pI_neg (by omega), pI_neg jd, pI_pos jl]
    have b := rn_b (tp := tp) (L := L) (P := leP) hj.1
    have wi := wc_is hj.1 ⟨jL, eL.2.2⟩ jl hs
    rw [es]
    refine ⟨o.1, by omega, by omega, fun c1 => ?_, fun c1 => ?_⟩
    · have lp : ∀ (z i : Nat), X2.2.1 s - i = z → i ≤ X2.2.1 s → (∀ m : Nat, m < i → tp (j + m) = wSt s m) → Ex X PG (d + 1) 31 28 [some (.ref 1), some (.retAddr s), some (.int (J i))] [] h Q := by
        intro z
        induction z with
        | zero =>
          intro i ez il hm
          refine q31_28 C hX et e3 hs il (by omega) (fun c2 => ?_) (fun c2 => absurd c2 (by omega)) (fun c2 => absurd c2 (by omega))
          rw [bI_pos (wi.mpr ⟨c1, fun m hk => hm m (by omega)⟩)] at k
          exact k
        | succ z ih =>
          intro i ez il hm
          refine q31_28 C hX et e3 hs il (by omega) (fun c2 => absurd c2 (by omega)) (fun c2 c3 => ?_) (fun c2 c3 => ?_)
          · have := ih (i + 1) (by omega) (by omega) (fun m hk => by
              by_cases q : m = i
              · rw [q]; exact c3
              · exact hm m (by omega))
            exact this
          · rw [bI_neg (fun e => c3 ((wi.mp e).2 i (by omega)))] at k
            exact k
      exact lp _ 0 rfl (by omega) (fun m hm => by omega)
    · rw [bI_neg (fun e => c1 (wi.mp e).1)] at k
      exact k
-- OutwardDoors$Tape.fail(I)V at 0
set_option maxRecDepth 20000 in
set_option maxHeartbeats 4000000 in
theorem r32_0 {X : Cst} {d : Nat} {x1 : Int} {h : AH} {Q : Post} (C_h : Lay h)
  (w : ((¬ fI h 1 6 = 0 → Q none h) ∧ (fI h 1 6 = 0 → Q none (wF h 1 6 ((1 + (8 * (fI h 1 3))) + x1))))) :
    Ex X PG (d + 1) 32 0 [some (.ref 1), some (.int (J x1))] [] h Q := by
  refine wpx_ok (cut := []) 14 d 32 0 _ _ _ _ ?_
  show hs h 1 = (0, 8) ∧ ((¬ (hF h 1 6) = (J 0) → Q none h) ∧ (¬ (¬ (hF h 1 6) = (J 0)) → hs h 1 = (0, 8) ∧ hs h 1 = (0, 8) ∧ Q none (wG h 1 6 (((J 1) + ((J 8) * (hF h 1 3))) + (J x1)))))
  try simp only [aI_wAL, fI_wAL, aL_wA, aL_wF, aI_wA_ne, aI_wF_ne, fI_wA_ne, fI_wF_ne, fI_wF_nk, aL_wAL_ne, J_sameA, J_sameF, aL_same, Nat.add_left_cancel_iff, Nat.add_eq_left, Nat.left_eq_add, not_false_eq_true, Nat.reduceEqDiff, Nat.reduceAdd, J_add, J_sub, J_mul, J_neg, J_and, J_or, J_xor, J_shl, J_shr, J_div, J_i2b, J_i2l, J_l2i, J_lcm, J_max, J_min, J_nab, J_nao, rdA, rdF, rdL, wA_fold, wF_fold, wL_fold, wC_fold]
  refine ⟨(ls1 C_h), ?_⟩
  refine ⟨fun c1 => ?_, fun c1 => ?_⟩
  · have t2 : ¬ fI h 1 6 = 0 := (fun e => c1 ((Jeq (rg_toInt _) (by decide)).mpr e))
    replace w := w.1 t2
    exact w
  · have t2 : fI h 1 6 = 0 := ((Jeq (rg_toInt _) (by decide)).mp (Classical.byContradiction c1))
    replace w := w.2 t2
    refine ⟨(ls1 C_h), ?_⟩
    refine ⟨(ls1 C_h), ?_⟩
    exact w
theorem m32 {X : Cst} {d : Nat} {q : Int} {h : AH} {Q : Post} (C : Lay h) (hd : 1 ≤ d) (k0 : ¬ fI h 1 6 = 0 → Q none h) (k : fI h 1 6 = 0 → Q none (wF h 1 6 (1 + 8 * fI h 1 3 + q))) : Ex X PG d 32 0 [some (.ref 1), some (.int (J q))] [] h Q := by
  obtain ⟨d, rfl⟩ : ∃ e, d = e + 1 := ⟨d - 1, by omega⟩
  exact r32_0 C ⟨k0, k⟩
-- OutwardDoors$Tape.isMark(I)Z at 0
set_option maxRecDepth 20000 in
set_option maxHeartbeats 4000000 in
theorem r45_0 {X : Cst} {d : Nat} {x1 : Int} {h : AH} {Q : Post} (C_h : Lay h)
  (w : ((¬ fI h 1 2 = 3 → Q (some (.int (J 0))) h) ∧ (fI h 1 2 = 3 → (-2147483648 ≤ x1 ∧ x1 < 2147483648) ∧ ((¬ fI h 1 5 = x1 → Q (some (.int (J 0))) h) ∧ (fI h 1 5 = x1 → Q (some (.int (J 1))) h))))) :
    Ex X PG (d + 1) 45 0 [some (.ref 1), some (.int (J x1))] [] h Q := by
  refine wpx_ok (cut := []) 11 d 45 0 _ _ _ _ ?_
  show hs h 1 = (0, 8) ∧ ((¬ (hF h 1 2) = (J 3) → (J 0 = J 0 ∨ J 0 = J 1) ∧ Q (some (.int (J 0))) h) ∧ (¬ (¬ (hF h 1 2) = (J 3)) → hs h 1 = (0, 8) ∧ ((¬ (hF h 1 5) = (J x1) → (J 0 = J 0 ∨ J 0 = J 1) ∧ Q (some (.int (J 0))) h) ∧ (¬ (¬ (hF h 1 5) = (J x1)) → (J 1 = J 0 ∨ J 1 = J 1) ∧ Q (some (.int (J 1))) h))))
  try simp only [aI_wAL, fI_wAL, aL_wA, aL_wF, aI_wA_ne, aI_wF_ne, fI_wA_ne, fI_wF_ne, fI_wF_nk, aL_wAL_ne, J_sameA, J_sameF, aL_same, Nat.add_left_cancel_iff, Nat.add_eq_left, Nat.left_eq_add, not_false_eq_true, Nat.reduceEqDiff, Nat.reduceAdd, J_add, J_sub, J_mul, J_neg, J_and, J_or, J_xor, J_shl, J_shr, J_div, J_i2b, J_i2l, J_l2i, J_lcm, J_max, J_min, J_nab, J_nao, rdA, rdF, rdL, wA_fold, wF_fold, wL_fold, wC_fold]
  refine ⟨(ls1 C_h), ?_⟩
  refine ⟨fun c1 => ?_, fun c1 => ?_⟩
  · have t2 : ¬ fI h 1 2 = 3 := (fun e => c1 ((Jeq (rg_toInt _) (by decide)).mpr e))
    replace w := w.1 t2
    exact ⟨(Or.inl (by trivial)), w⟩
  · have t2 : fI h 1 2 = 3 := ((Jeq (rg_toInt _) (by decide)).mp (Classical.byContradiction c1))
    replace w := w.2 t2
    refine ⟨(ls1 C_h), ?_⟩
    obtain ⟨k5, w⟩ := w
    refine ⟨fun c3 => ?_, fun c3 => ?_⟩
    · have t4 : ¬ fI h 1 5 = x1 := (fun e => c3 ((Jeq (rg_toInt _) k5).mpr e))
      replace w := w.1 t4
      exact ⟨(Or.inl (by trivial)), w⟩
    · have t4 : fI h 1 5 = x1 := ((Jeq (rg_toInt _) k5).mp (Classical.byContradiction c3))
      replace w := w.2 t4
      exact ⟨(Or.inr (by trivial)), w⟩
theorem m45 {X : Cst} {d : Nat} {q : Int} {h : AH} {Q : Post} (C : Lay h) (hd : 1 ≤ d) (g : -2147483648 ≤ q ∧ q < 2147483648) (k : Q (some (.int (J (bI (fI h 1 2 = 3 ∧ fI h 1 5 = q))))) h) : Ex X PG d 45 0 [some (.ref 1), some (.int (J q))] [] h Q := by
  obtain ⟨d, rfl⟩ : ∃ e, d = e + 1 := ⟨d - 1, by omega⟩
  refine r45_0 C ⟨fun c => ?_, fun c => ⟨g, fun c2 => ?_, fun c2 => ?_⟩⟩
  · rw [bI_neg (fun z => c z.1)] at k; exact k
  · rw [bI_neg (fun z => c2 z.2)] at k; exact k
  · rw [bI_pos ⟨c, c2⟩] at k; exact k
/-- the next place -/
noncomputable def nx (tp : Int → Int) (L j : Int) : Int := skp tp L (tkS tp L j)
theorem tkS_b {tp : Int → Int} {L j : Int} (h0 : 0 ≤ j) (hj : j ≤ L) : j ≤ tkS tp L j ∧ tkS tp L j ≤ L ∧ (j < L → j < tkS tp L j) := by
  unfold tkS
  by_cases c1 : L ≤ j
  · rw [pI_pos c1]; omega
  rw [pI_neg c1]
  have st : ∀ P : Int → Prop, P (tp j) → j ≤ rn tp L P j ∧ rn tp L P j ≤ L ∧ (j < L → j < rn tp L P j) := by
    intro P p
    have b := rn_b (tp := tp) (L := L) (P := P) (i := j) h0
    have e := rnE_b (tp := tp) (L := L) (P := P) 400 (j + 1)
    have q : rn tp L P j = rnE tp L P 400 (j + 1) := by
      show rnE tp L P (400 + 1) j = _
      unfold rnE
      exact pI_pos ⟨by omega, p⟩
    omega
  by_cases c2 : dgP (tp j)
  · rw [pI_pos c2]; exact st _ c2
  rw [pI_neg c2]
  by_cases c3 : leP (tp j)
  · rw [pI_pos c3]; exact st _ c3
  rw [pI_neg c3]
  by_cases c4 : wdn tp L j
  · rw [pI_pos c4]; unfold wdn at c4; omega
  · rw [pI_neg c4]; omega
theorem nx_b {tp : Int → Int} {L j : Int} (h0 : 0 ≤ j) (hj : j ≤ L) : j ≤ nx tp L j ∧ nx tp L j ≤ L ∧ (j < L → j < nx tp L j) := by
  have a := tkS_b (tp := tp) h0 hj
  have b := skp_b (tp := tp) (L := L) (i := tkS tp L j) (by omega) a.2.1
  unfold nx; omega
/-- one token on -/
theorem m24n {X : Cst} {d : Nat} {j L f : Int} {tp : Int → Int} {h : AH} {Q : Post} (C : Lay h) (hd : 2 ≤ d) (T : TkC h tp L j f) (k : ∀ h', Fr TTk h h' → TkC h' tp L (nx tp L j) f → Q none h') : Ex X PG d 24 0 [some (.ref 1), none] [] h Q := by
  have a := tkS_b (tp := tp) T.2.2.1.1 T.2.2.1.2
  exact m24 C hd T.1 T.2.1.1 T.2.1.2.2 T.2.2.2.2.2.1 T.2.2.2.2.2.2.2 (by have := T.2.2.1; omega) k
-- OutwardDoors$Tape.open()V at 0
set_option maxRecDepth 20000 in
set_option maxHeartbeats 4000000 in
theorem r23_0 {X : Cst} {d : Nat}  {h : AH} {Q : Post} (C_h : Lay h)
  (w : Ex X PG d 24 0 [some (.ref 1), none] [] (wF (wF h 1 4 0) 1 6 0) (fun v1 h2 => v1 = none ∧ SH (wF (wF h 1 4 0) 1 6 0) h2 ∧ Q none h2)) :
    Ex X PG (d + 1) 23 0 [some (.ref 1)] [] h Q := by
  refine wpx_ok (cut := []) 9 d 23 0 _ _ _ _ ?_
  show hs h 1 = (0, 8) ∧ hs (wG h 1 4 (J 0)) 1 = (0, 8) ∧ hs (wG (wG h 1 4 (J 0)) 1 6 (J 0)) 1 = (0, 8) ∧ Ex X PG d 24 0 [some (.ref 1), none] [] (wG (wG h 1 4 (J 0)) 1 6 (J 0)) (fun v1 h2 => v1 = none ∧ Q none h2)
  try simp only [aI_wAL, fI_wAL, aL_wA, aL_wF, aI_wA_ne, aI_wF_ne, fI_wA_ne, fI_wF_ne, fI_wF_nk, aL_wAL_ne, J_sameA, J_sameF, aL_same, Nat.add_left_cancel_iff, Nat.add_eq_left, Nat.left_eq_add, not_false_eq_true, Nat.reduceEqDiff, Nat.reduceAdd, J_add, J_sub, J_mul, J_neg, J_and, J_or, J_xor, J_shl, J_shr, J_div, J_i2b, J_i2l, J_l2i, J_lcm, J_max, J_min, J_nab, J_nao, rdA, rdF, rdL, wA_fold, wF_fold, wL_fold, wC_fold]
  refine ⟨(ls1 C_h), ?_⟩
  refine ⟨(ls1 C_h), ?_⟩
  refine ⟨(ls1 C_h), ?_⟩
  refine Ex.mono w (Nat.le_refl _) ?_
  rintro v1 h2 ⟨rfl, s3, w⟩
  refine ⟨rfl, ?_⟩
  have C_h2 := Lay_SH s3 C_h
  try simp only [aI_wAL, fI_wAL, aL_wA, aL_wF, aI_wA_ne, aI_wF_ne, fI_wA_ne, fI_wF_ne, fI_wF_nk, aL_wAL_ne, J_sameA, J_sameF, aL_same, Nat.add_left_cancel_iff, Nat.add_eq_left, Nat.left_eq_add, not_false_eq_true, Nat.reduceEqDiff, Nat.reduceAdd, J_add, J_sub, J_mul, J_neg, J_and, J_or, J_xor, J_shl, J_shr, J_div, J_i2b, J_i2l, J_l2i, J_lcm, J_max, J_min, J_nab, J_nao, rdA, rdF, rdL, wA_fold, wF_fold, wL_fold, wC_fold]
  exact w
theorem m23 {X : Cst} {d : Nat} {L : Int} {tp : Int → Int} {h : AH} {Q : Post} (C : Lay h) (hd : 3 ≤ d) (et : aI h 2 = tp) (eL : fI h 1 1 = L) (hL : 0 ≤ L ∧ L ≤ 400) (k : ∀ h', Fr (fun c k => c = 1 ∧ 2 ≤ k) h h' → TkC h' tp L (skp tp L 0) 0 → Q none h') : Ex X PG d 23 0 [some (.ref 1)] [] h Q := by
  obtain ⟨d, rfl⟩ : ∃ e, d = e + 1 := ⟨d - 1, by omega⟩
  refine r23_0 C ?_
  have F : Fr (fun c k => c = 1 ∧ 2 ≤ k) h (wF (wF h 1 4 0) 1 6 0) := (Fr.rf.wF (by omega)).wF (by omega)
  refine m24 (i := 0) (f := 0) (L := L) (tp := tp) (F.C C) (by omega) ((F.a 2 (by omega)).trans et) ((F.f 1 1 (by omega)).trans eL) hL.2 ?_ (fI_wF_eq (by omega)) (by omega) (fun h' F' T => ⟨rfl, F'.1, k h' (F.tr (F'.mo (fun c k z => by unfold TTk at z; omega))) T⟩)
  rw [fI_wF_nk (by decide), fI_wF_eq (by omega)]
theorem TkC.fa {h : AH} {tp : Int → Int} {L j f f' : Int} (T : TkC h tp L j f) (g : -2147483648 ≤ f' ∧ f' < 2147483648) : TkC (wF h 1 6 f') tp L j f' := by
  obtain ⟨et, eL, hj, e3, e2, e4, e5, e6⟩ := T
  refine ⟨by rw [aI_wF_ne (by decide)]; exact et, ⟨by rw [fI_wF_nk (by decide)]; exact eL.1, eL.2⟩, hj, ?_, ?_, ?_, ?_, fI_wF_eq g⟩
  · rw [fI_wF_nk (by decide)]; exact e3
  · rw [fI_wF_nk (by decide)]; exact e2
  · rw [fI_wF_nk (by decide)]; exact e4
  · rw [fI_wF_nk (by decide)]; exact e5
theorem TkC.fr {T : Nat → Nat → Prop} {h h' : AH} {tp : Int → Int} {L j f : Int} (K : TkC h tp L j f) (F : Fr T h h') (n2 : ∀ k, ¬ T 2 k) (n1 : ∀ k, ¬ T 1 k) : TkC h' tp L j f := by
  obtain ⟨et, eL, hj, e3, e2, e4, e5, e6⟩ := K
  exact ⟨(F.a 2 n2).trans et, ⟨(F.f 1 1 (n1 _)).trans eL.1, eL.2⟩, hj, (F.f 1 3 (n1 _)).trans e3, (F.f 1 2 (n1 _)).trans e2, (F.f 1 4 (n1 _)).trans e4, (F.f 1 5 (n1 _)).trans e5, (F.f 1 6 (n1 _)).trans e6⟩
def TTf (c k : Nat) : Prop := c = 1 ∧ (k = 2 ∨ k = 3 ∨ k = 4 ∨ k = 5 ∨ k = 6)
theorem TTk_f {c k : Nat} (z : TTk c k) : TTf c k := by unfold TTk at z; unfold TTf; omega
-- OutwardDoors$Tape.goesOn()Z at 0
set_option maxRecDepth 20000 in
set_option maxHeartbeats 4000000 in
theorem r44_0 {X : Cst} {d : Nat}  {h : AH} {Q : Post} (C_h : Lay h) (hd : 1 ≤ d)
  (w : ((¬ fI h 1 6 = 0 → Q (some (.int (J 0))) h) ∧ (fI h 1 6 = 0 → ((¬ fI h 1 2 = 0 → (((fI h 1 2 = 3 ∧ fI h 1 5 = 59) → Ex X PG d 24 0 [some (.ref 1), none] [] h (fun v10 h11 => v10 = none ∧ SH h h11 ∧ Q (some (.int (J 1))) h11)) ∧ (¬ (fI h 1 2 = 3 ∧ fI h 1 5 = 59) → Ex X PG d 32 0 [some (.ref 1), some (.int (J 0))] [] h (fun v13 h14 => v13 = none ∧ SH h h14 ∧ Q (some (.int (J 0))) h14)))) ∧ (fI h 1 2 = 0 → Q (some (.int (J 0))) h))))) :
    Ex X PG (d + 1) 44 0 [some (.ref 1)] [] h Q := by
  refine wpx_ok (cut := []) 15 d 44 0 _ _ _ _ ?_
  show hs h 1 = (0, 8) ∧ ((¬ (hF h 1 6) = (J 0) → (J 0 = J 0 ∨ J 0 = J 1) ∧ Q (some (.int (J 0))) h) ∧ (¬ (¬ (hF h 1 6) = (J 0)) → hs h 1 = (0, 8) ∧ ((¬ (hF h 1 2) = (J 0) → hs h 1 = (0, 8) ∧ Ex X PG d 45 0 [some (.ref 1), some (.int (J 59))] [] h (fun v5 h6 => ∃ r7, v5 = some (.int r7) ∧ ((¬ r7 = (J 0) → hs h6 1 = (0, 8) ∧ Ex X PG d 24 0 [some (.ref 1), none] [] h6 (fun v10 h11 => v10 = none ∧ (J 1 = J 0 ∨ J 1 = J 1) ∧ Q (some (.int (J 1))) h11)) ∧ (¬ (¬ r7 = (J 0)) → hs h6 1 = (0, 8) ∧ Ex X PG d 32 0 [some (.ref 1), some (.int (J 0))] [] h6 (fun v13 h14 => v13 = none ∧ (J 0 = J 0 ∨ J 0 = J 1) ∧ Q (some (.int (J 0))) h14))))) ∧ (¬ (¬ (hF h 1 2) = (J 0)) → (J 0 = J 0 ∨ J 0 = J 1) ∧ Q (some (.int (J 0))) h))))
  try simp only [aI_wAL, fI_wAL, aL_wA, aL_wF, aI_wA_ne, aI_wF_ne, fI_wA_ne, fI_wF_ne, fI_wF_nk, aL_wAL_ne, J_sameA, J_sameF, aL_same, Nat.add_left_cancel_iff, Nat.add_eq_left, Nat.left_eq_add, not_false_eq_true, Nat.reduceEqDiff, Nat.reduceAdd, J_add, J_sub, J_mul, J_neg, J_and, J_or, J_xor, J_shl, J_shr, J_div, J_i2b, J_i2l, J_l2i, J_lcm, J_max, J_min, J_nab, J_nao, rdA, rdF, rdL, wA_fold, wF_fold, wL_fold, wC_fold]
  refine ⟨(ls1 C_h), ?_⟩
  refine ⟨fun c1 => ?_, fun c1 => ?_⟩
  · have t2 : ¬ fI h 1 6 = 0 := (fun e => c1 ((Jeq (rg_toInt _) (by decide)).mpr e))
    replace w := w.1 t2
    exact ⟨(Or.inl (by trivial)), w⟩
  · have t2 : fI h 1 6 = 0 := ((Jeq (rg_toInt _) (by decide)).mp (Classical.byContradiction c1))
    replace w := w.2 t2
    refine ⟨(ls1 C_h), ?_⟩
    refine ⟨fun c3 => ?_, fun c3 => ?_⟩
    · have t4 : ¬ fI h 1 2 = 0 := (fun e => c3 ((Jeq (rg_toInt _) (by decide)).mpr e))
      replace w := w.1 t4
      refine ⟨(ls1 C_h), ?_⟩
      refine m45 (h := h) (q := 59) C_h (by omega) (by decide) ?_
      refine ⟨_, rfl, ?_⟩
      try simp only [aI_wAL, fI_wAL, aL_wA, aL_wF, aI_wA_ne, aI_wF_ne, fI_wA_ne, fI_wF_ne, fI_wF_nk, aL_wAL_ne, J_sameA, J_sameF, aL_same, Nat.add_left_cancel_iff, Nat.add_eq_left, Nat.left_eq_add, not_false_eq_true, Nat.reduceEqDiff, Nat.reduceAdd, J_add, J_sub, J_mul, J_neg, J_and, J_or, J_xor, J_shl, J_shr, J_div, J_i2b, J_i2l, J_l2i, J_lcm, J_max, J_min, J_nab, J_nao, rdA, rdF, rdL, wA_fold, wF_fold, wL_fold, wC_fold]
      refine ⟨fun c8 => ?_, fun c8 => ?_⟩
      · have t9 : (fI h 1 2 = 3 ∧ fI h 1 5 = 59) := (Classical.byContradiction fun n => c8 ((bI0 _).mpr n))
        replace w := w.1 t9
        refine ⟨(ls1 C_h), ?_⟩
        refine Ex.mono w (Nat.le_refl _) ?_
        rintro v10 h11 ⟨rfl, s12, w⟩
        refine ⟨rfl, ?_⟩
        have C_h11 := Lay_SH s12 C_h
        try simp only [aI_wAL, fI_wAL, aL_wA, aL_wF, aI_wA_ne, aI_wF_ne, fI_wA_ne, fI_wF_ne, fI_wF_nk, aL_wAL_ne, J_sameA, J_sameF, aL_same, Nat.add_left_cancel_iff, Nat.add_eq_left, Nat.left_eq_add, not_false_eq_true, Nat.reduceEqDiff, Nat.reduceAdd, J_add, J_sub, J_mul, J_neg, J_and, J_or, J_xor, J_shl, J_shr, J_div, J_i2b, J_i2l, J_l2i, J_lcm, J_max, J_min, J_nab, J_nao, rdA, rdF, rdL, wA_fold, wF_fold, wL_fold, wC_fold]
        exact ⟨(Or.inr (by trivial)), w⟩
      · have t9 : ¬ (fI h 1 2 = 3 ∧ fI h 1 5 = 59) := ((bI0 _).mp (Classical.byContradiction fun n => c8 n))
        replace w := w.2 t9
        refine ⟨(ls1 C_h), ?_⟩
        refine Ex.mono w (Nat.le_refl _) ?_
        rintro v13 h14 ⟨rfl, s15, w⟩
        refine ⟨rfl, ?_⟩
        have C_h14 := Lay_SH s15 C_h
        try simp only [aI_wAL, fI_wAL, aL_wA, aL_wF, aI_wA_ne, aI_wF_ne, fI_wA_ne, fI_wF_ne, fI_wF_nk, aL_wAL_ne, J_sameA, J_sameF, aL_same, Nat.add_left_cancel_iff, Nat.add_eq_left, Nat.left_eq_add, not_false_eq_true, Nat.reduceEqDiff, Nat.reduceAdd, J_add, J_sub, J_mul, J_neg, J_and, J_or, J_xor, J_shl, J_shr, J_div, J_i2b, J_i2l, J_l2i, J_lcm, J_max, J_min, J_nab, J_nao, rdA, rdF, rdL, wA_fold, wF_fold, wL_fold, wC_fold]
        exact ⟨(Or.inl (by trivial)), w⟩
    · have t4 : fI h 1 2 = 0 := ((Jeq (rg_toInt _) (by decide)).mp (Classical.byContradiction c3))
      replace w := w.2 t4
      exact ⟨(Or.inl (by trivial)), w⟩
theorem m44 {X : Cst} {d : Nat} {L j f : Int} {tp : Int → Int} {h : AH} {Q : Post} (C : Lay h) (hd : 3 ≤ d) (T : TkC h tp L j f)
    (k0 : ¬ f = 0 → Q (some (.int (J 0))) h) (k1 : f = 0 → tkK tp L j = 0 → Q (some (.int (J 0))) h)
    (k2 : f = 0 → tkK tp L j = 3 → tkV tp L j = 59 → ∀ h', Fr TTf h h' → TkC h' tp L (nx tp L j) 0 → Q (some (.int (J 1))) h')
    (k3 : f = 0 → ¬ tkK tp L j = 0 → ¬ (tkK tp L j = 3 ∧ tkV tp L j = 59) → ∀ h', Fr TTf h h' → TkC h' tp L j (1 + 8 * j) → Q (some (.int (J 0))) h') : Ex X PG d 44 0 [some (.ref 1)] [] h Q := by
  obtain ⟨d, rfl⟩ : ∃ e, d = e + 1 := ⟨d - 1, by omega⟩
  refine r44_0 C (by omega) ?_
  have T' := T
  obtain ⟨et, eL, hj, e3, e2, e4, e5, e6⟩ := T'
  rw [e6, e2, e5]
  refine ⟨k0, fun c0 => ⟨fun c1 => ⟨fun c2 => ?_, fun c2 => ?_⟩, k1 c0⟩⟩
  · subst c0
    refine m24n C (by omega) T (fun h' F T' => ⟨rfl, F.1, k2 rfl c2.1 c2.2 h' (F.mo (fun _ _ => TTk_f)) T'⟩)
  · refine m32 C (by omega) (fun z => absurd (e6.trans c0) z) (fun _ => ⟨rfl, SH.rf.wF, ?_⟩)
    rw [e3, show 1 + 8 * j + 0 = 1 + 8 * j by omega]
    exact k3 c0 c1 c2 _ (Fr.rf.wF (by unfold TTf; omega)) (T.fa (by omega))
/-- the fault of a number at j that has to lie between lo and hi and not among the barred -/
noncomputable def nmF (tp : Int → Int) (L j lo hi : Int) (bar : Int → Prop) : Int := pI (tkK tp L j = 1) (pI ((lo ≤ tkV tp L j ∧ tkV tp L j ≤ hi) ∧ ¬ bar (tkV tp L j)) 0 (1 + 8 * j + 1)) (1 + 8 * j)
-- OutwardDoors$Tape.takeNumber(III)I at 0
set_option maxRecDepth 20000 in
set_option maxHeartbeats 4000000 in
theorem r35_0 {X : Cst} {d : Nat} {x1 : Int} {x2 : Int} {x3 : Int} {h : AH} {Q : Post} (C_h : Lay h)
  (w : ((fI h 1 6 = 0 → ((fI h 1 2 = 1 → (-2147483648 ≤ x1 ∧ x1 < 2147483648) ∧ ((fI h 1 5 < x1 → Ex X PG d 32 0 [some (.ref 1), some (.int (J 1))] [] h (fun v8 h9 => v8 = none ∧ SH h h9 ∧ Q (some (.int (J x1))) h9)) ∧ (¬ fI h 1 5 < x1 → (-2147483648 ≤ x2 ∧ x2 < 2147483648) ∧ ((x2 < fI h 1 5 → Ex X PG d 32 0 [some (.ref 1), some (.int (J 1))] [] h (fun v14 h15 => v14 = none ∧ SH h h15 ∧ Q (some (.int (J x1))) h15)) ∧ (¬ x2 < fI h 1 5 → ((31 ≤ fI h 1 5 → Ex X PG d 24 0 [some (.ref 1), none] [] h (fun v19 h20 => v19 = none ∧ SH h h20 ∧ Q (some (.int (J (fI h 1 5)))) h20)) ∧ (¬ 31 ≤ fI h 1 5 → ((¬ iand (shr x3 (iand (fI h 1 5) 31)) 1 = 1 → Ex X PG d 24 0 [some (.ref 1), none] [] h (fun v24 h25 => v24 = none ∧ SH h h25 ∧ Q (some (.int (J (fI h 1 5)))) h25)) ∧ (iand (shr x3 (iand (fI h 1 5) 31)) 1 = 1 → Ex X PG d 32 0 [some (.ref 1), some (.int (J 1))] [] h (fun v27 h28 => v27 = none ∧ SH h h28 ∧ Q (some (.int (J x1))) h28)))))))))) ∧ (¬ fI h 1 2 = 1 → Ex X PG d 32 0 [some (.ref 1), some (.int (J 0))] [] h (fun v30 h31 => v30 = none ∧ SH h h31 ∧ Q (some (.int (J x1))) h31)))) ∧ (¬ fI h 1 6 = 0 → Q (some (.int (J x1))) h))) :
    Ex X PG (d + 1) 35 0 [some (.ref 1), some (.int (J x1)), some (.int (J x2)), some (.int (J x3)), none] [] h Q := by
  refine wpx_ok (cut := []) 34 d 35 0 _ _ _ _ ?_
  show hs h 1 = (0, 8) ∧ (((hF h 1 6) = (J 0) → hs h 1 = (0, 8) ∧ (((hF h 1 2) = (J 1) → hs h 1 = (0, 8) ∧ (((hF h 1 5) < (J x1) → hs h 1 = (0, 8) ∧ Ex X PG d 32 0 [some (.ref 1), some (.int (J 1))] [] h (fun v8 h9 => v8 = none ∧ Q (some (.int (J x1))) h9)) ∧ (¬ ((hF h 1 5) < (J x1)) → hs h 1 = (0, 8) ∧ (((J x2) < (hF h 1 5) → hs h 1 = (0, 8) ∧ Ex X PG d 32 0 [some (.ref 1), some (.int (J 1))] [] h (fun v14 h15 => v14 = none ∧ Q (some (.int (J x1))) h15)) ∧ (¬ ((J x2) < (hF h 1 5)) → hs h 1 = (0, 8) ∧ (((J 31) ≤ (hF h 1 5) → hs h 1 = (0, 8) ∧ hs h 1 = (0, 8) ∧ Ex X PG d 24 0 [some (.ref 1), none] [] h (fun v19 h20 => v19 = none ∧ Q (some (.int (hF h 1 5))) h20)) ∧ (¬ ((J 31) ≤ (hF h 1 5)) → hs h 1 = (0, 8) ∧ ((¬ (((J x3) >>> ((hF h 1 5) &&& J 31)) &&& (J 1)) = (J 1) → hs h 1 = (0, 8) ∧ hs h 1 = (0, 8) ∧ Ex X PG d 24 0 [some (.ref 1), none] [] h (fun v24 h25 => v24 = none ∧ Q (some (.int (hF h 1 5))) h25)) ∧ (¬ (¬ (((J x3) >>> ((hF h 1 5) &&& J 31)) &&& (J 1)) = (J 1)) → hs h 1 = (0, 8) ∧ Ex X PG d 32 0 [some (.ref 1), some (.int (J 1))] [] h (fun v27 h28 => v27 = none ∧ Q (some (.int (J x1))) h28)))))))))) ∧ (¬ ((hF h 1 2) = (J 1)) → hs h 1 = (0, 8) ∧ Ex X PG d 32 0 [some (.ref 1), some (.int (J 0))] [] h (fun v30 h31 => v30 = none ∧ Q (some (.int (J x1))) h31)))) ∧ (¬ ((hF h 1 6) = (J 0)) → Q (some (.int (J x1))) h))
  try simp only [aI_wAL, fI_wAL, aL_wA, aL_wF, aI_wA_ne, aI_wF_ne, fI_wA_ne, fI_wF_ne, fI_wF_nk, aL_wAL_ne, J_sameA, J_sameF, aL_same, Nat.add_left_cancel_iff, Nat.add_eq_left, Nat.left_eq_add, not_false_eq_true, Nat.reduceEqDiff, Nat.reduceAdd, J_add, J_sub, J_mul, J_neg, J_and, J_or, J_xor, J_shl, J_shr, J_div, J_i2b, J_i2l, J_l2i, J_lcm, J_max, J_min, J_nab, J_nao, rdA, rdF, rdL, wA_fold, wF_fold, wL_fold, wC_fold]
  refine ⟨(ls1 C_h), ?_⟩
  refine ⟨fun c1 => ?_, fun c1 => ?_⟩
  · have t2 : fI h 1 6 = 0 := ((Jeq (rg_toInt _) (by decide)).mp c1)
    replace w := w.1 t2
    refine ⟨(ls1 C_h), ?_⟩
    refine ⟨fun c3 => ?_, fun c3 => ?_⟩
    · have t4 : fI h 1 2 = 1 := ((Jeq (rg_toInt _) (by decide)).mp c3)
      replace w := w.1 t4
      refine ⟨(ls1 C_h), ?_⟩
      obtain ⟨k7, w⟩ := w
      refine ⟨fun c5 => ?_, fun c5 => ?_⟩
      · have t6 : fI h 1 5 < x1 := ((Jlt (rg_toInt _) k7).mp c5)
        replace w := w.1 t6
        refine ⟨(ls1 C_h), ?_⟩
        refine Ex.mono w (Nat.le_refl _) ?_
        rintro v8 h9 ⟨rfl, s10, w⟩
        refine ⟨rfl, ?_⟩
        have C_h9 := Lay_SH s10 C_h
        try simp only [aI_wAL, fI_wAL, aL_wA, aL_wF, aI_wA_ne, aI_wF_ne, fI_wA_ne, fI_wF_ne, fI_wF_nk, aL_wAL_ne, J_sameA, J_sameF, aL_same, Nat.add_left_cancel_iff, Nat.add_eq_left, Nat.left_eq_add, not_false_eq_true, Nat.reduceEqDiff, Nat.reduceAdd, J_add, J_sub, J_mul, J_neg, J_and, J_or, J_xor, J_shl, J_shr, J_div, J_i2b, J_i2l, J_l2i, J_lcm, J_max, J_min, J_nab, J_nao, rdA, rdF, rdL, wA_fold, wF_fold, wL_fold, wC_fold]
        exact w
      · have t6 : ¬ fI h 1 5 < x1 := (fun e => c5 ((Jlt (rg_toInt _) k7).mpr e))
        replace w := w.2 t6
        refine ⟨(ls1 C_h), ?_⟩
        obtain ⟨k13, w⟩ := w
        refine ⟨fun c11 => ?_, fun c11 => ?_⟩
        · have t12 : x2 < fI h 1 5 := ((Jlt k13 (rg_toInt _)).mp c11)
          replace w := w.1 t12
          refine ⟨(ls1 C_h), ?_⟩
          refine Ex.mono w (Nat.le_refl _) ?_
          rintro v14 h15 ⟨rfl, s16, w⟩
          refine ⟨rfl, ?_⟩
          have C_h15 := Lay_SH s16 C_h
          try simp only [aI_wAL, fI_wAL, aL_wA, aL_wF, aI_wA_ne, aI_wF_ne, fI_wA_ne, fI_wF_ne, fI_wF_nk, aL_wAL_ne, J_sameA, J_sameF, aL_same, Nat.add_left_cancel_iff, Nat.add_eq_left, Nat.left_eq_add, not_false_eq_true, Nat.reduceEqDiff, Nat.reduceAdd, J_add, J_sub, J_mul, J_neg, J_and, J_or, J_xor, J_shl, J_shr, J_div, J_i2b, J_i2l, J_l2i, J_lcm, J_max, J_min, J_nab, J_nao, rdA, rdF, rdL, wA_fold, wF_fold, wL_fold, wC_fold]
          exact w
        · have t12 : ¬ x2 < fI h 1 5 := (fun e => c11 ((Jlt k13 (rg_toInt _)).mpr e))
          replace w := w.2 t12
          refine ⟨(ls1 C_h), ?_⟩
          refine ⟨fun c17 => ?_, fun c17 => ?_⟩
          · have t18 : 31 ≤ fI h 1 5 := ((Jle (by decide) (rg_toInt _)).mp c17)
            replace w := w.1 t18
            refine ⟨(ls1 C_h), ?_⟩
            refine ⟨(ls1 C_h), ?_⟩
            refine Ex.mono w (Nat.le_refl _) ?_
            rintro v19 h20 ⟨rfl, s21, w⟩
            refine ⟨rfl, ?_⟩
            have C_h20 := Lay_SH s21 C_h
            try simp only [aI_wAL, fI_wAL, aL_wA, aL_wF, aI_wA_ne, aI_wF_ne, fI_wA_ne, fI_wF_ne, fI_wF_nk, aL_wAL_ne, J_sameA, J_sameF, aL_same, Nat.add_left_cancel_iff, Nat.add_eq_left, Nat.left_eq_add, not_false_eq_true, Nat.reduceEqDiff, Nat.reduceAdd, J_add, J_sub, J_mul, J_neg, J_and, J_or, J_xor, J_shl, J_shr, J_div, J_i2b, J_i2l, J_l2i, J_lcm, J_max, J_min, J_nab, J_nao, rdA, rdF, rdL, wA_fold, wF_fold, wL_fold, wC_fold]
            exact w
          · have t18 : ¬ 31 ≤ fI h 1 5 := (fun e => c17 ((Jle (by decide) (rg_toInt _)).mpr e))
            replace w := w.2 t18
            refine ⟨(ls1 C_h), ?_⟩
            refine ⟨fun c22 => ?_, fun c22 => ?_⟩
            · have t23 : ¬ iand (shr x3 (iand (fI h 1 5) 31)) 1 = 1 := (fun e => c22 ((Jeq (rg_toInt _) (by decide)).mpr e))
              replace w := w.1 t23
              refine ⟨(ls1 C_h), ?_⟩
              refine ⟨(ls1 C_h), ?_⟩
              refine Ex.mono w (Nat.le_refl _) ?_
              rintro v24 h25 ⟨rfl, s26, w⟩
              refine ⟨rfl, ?_⟩
              have C_h25 := Lay_SH s26 C_h
              try simp only [aI_wAL, fI_wAL, aL_wA, aL_wF, aI_wA_ne, aI_wF_ne, fI_wA_ne, fI_wF_ne, fI_wF_nk, aL_wAL_ne, J_sameA, J_sameF, aL_same, Nat.add_left_cancel_iff, Nat.add_eq_left, Nat.left_eq_add, not_false_eq_true, Nat.reduceEqDiff, Nat.reduceAdd, J_add, J_sub, J_mul, J_neg, J_and, J_or, J_xor, J_shl, J_shr, J_div, J_i2b, J_i2l, J_l2i, J_lcm, J_max, J_min, J_nab, J_nao, rdA, rdF, rdL, wA_fold, wF_fold, wL_fold, wC_fold]
              exact w
            · have t23 : iand (shr x3 (iand (fI h 1 5) 31)) 1 = 1 := ((Jeq (rg_toInt _) (by decide)).mp (Classical.byContradiction c22))
              replace w := w.2 t23
              refine ⟨(ls1 C_h), ?_⟩
              refine Ex.mono w (Nat.le_refl _) ?_
              rintro v27 h28 ⟨rfl, s29, w⟩
              refine ⟨rfl, ?_⟩
              have C_h28 := Lay_SH s29 C_h
              try simp only [aI_wAL, fI_wAL, aL_wA, aL_wF, aI_wA_ne, aI_wF_ne, fI_wA_ne, fI_wF_ne, fI_wF_nk, aL_wAL_ne, J_sameA, J_sameF, aL_same, Nat.add_left_cancel_iff, Nat.add_eq_left, Nat.left_eq_add, not_false_eq_true, Nat.reduceEqDiff, Nat.reduceAdd, J_add, J_sub, J_mul, J_neg, J_and, J_or, J_xor, J_shl, J_shr, J_div, J_i2b, J_i2l, J_l2i, J_lcm, J_max, J_min, J_nab, J_nao, rdA, rdF, rdL, wA_fold, wF_fold, wL_fold, wC_fold]
              exact w
    · have t4 : ¬ fI h 1 2 = 1 := (fun e => c3 ((Jeq (rg_toInt _) (by decide)).mpr e))
      replace w := w.2 t4
      refine ⟨(ls1 C_h), ?_⟩
      refine Ex.mono w (Nat.le_refl _) ?_
      rintro v30 h31 ⟨rfl, s32, w⟩
      refine ⟨rfl, ?_⟩
      have C_h31 := Lay_SH s32 C_h
      try simp only [aI_wAL, fI_wAL, aL_wA, aL_wF, aI_wA_ne, aI_wF_ne, fI_wA_ne, fI_wF_ne, fI_wF_nk, aL_wAL_ne, J_sameA, J_sameF, aL_same, Nat.add_left_cancel_iff, Nat.add_eq_left, Nat.left_eq_add, not_false_eq_true, Nat.reduceEqDiff, Nat.reduceAdd, J_add, J_sub, J_mul, J_neg, J_and, J_or, J_xor, J_shl, J_shr, J_div, J_i2b, J_i2l, J_l2i, J_lcm, J_max, J_min, J_nab, J_nao, rdA, rdF, rdL, wA_fold, wF_fold, wL_fold, wC_fold]
      exact w
  · have t2 : ¬ fI h 1 6 = 0 := (fun e => c1 ((Jeq (rg_toInt _) (by decide)).mpr e))
    replace w := w.2 t2
    exact w
theorem m35 {X : Cst} {d : Nat} {L j f lo hi b : Int} {bar : Int → Prop} {tp : Int → Int} {h : AH} {Q : Post} (C : Lay h) (hd : 3 ≤ d) (T : TkC h tp L j f) (hl : 0 ≤ lo ∧ lo < 2147483648) (hh : -2147483648 ≤ hi ∧ hi < 2147483648) (hb : ∀ v : Int, 0 ≤ v → v ≤ hi → v < 31 → (iand (shr b (iand v 31)) 1 = 1 ↔ bar v)) (hb2 : ∀ v : Int, 31 ≤ v → v ≤ hi → ¬ bar v)
    (k0 : ¬ f = 0 → Q (some (.int (J lo))) h) (k1 : f = 0 → ¬ nmF tp L j lo hi bar = 0 → ∀ h', Fr TTf h h' → TkC h' tp L j (nmF tp L j lo hi bar) → Q (some (.int (J lo))) h')
    (k2 : f = 0 → nmF tp L j lo hi bar = 0 → ∀ h', Fr TTf h h' → TkC h' tp L (nx tp L j) 0 → Q (some (.int (J (tkV tp L j)))) h') : Ex X PG d 35 0 [some (.ref 1), some (.int (J lo)), some (.int (J hi)), some (.int (J b)), none] [] h Q := by
  obtain ⟨d, rfl⟩ : ∃ e, d = e + 1 := ⟨d - 1, by omega⟩
  refine r35_0 C ?_
  have T' := T
  obtain ⟨et, eL, hj, e3, e2, e4, e5, e6⟩ := T'
  rw [e6, e2, e5]
  have fl : f = 0 → ∀ q : Int, (q = 0 ∨ q = 1) → nmF tp L j lo hi bar = 1 + 8 * j + q → Ex X PG d 32 0 [some (.ref 1), some (.int (J q))] [] h (fun v h' => v = none ∧ SH h h' ∧ Q (some (.int (J lo))) h') := by
    intro c0 q hq e
    refine m32 C (by omega) (fun z => absurd (e6.trans c0) z) (fun _ => ⟨rfl, SH.rf.wF, ?_⟩)
    rw [e3, ← e]
    exact k1 c0 (by omega) _ (Fr.rf.wF (by unfold TTf; omega)) (T.fa (by omega))
  have ok : f = 0 → nmF tp L j lo hi bar = 0 → Ex X PG d 24 0 [some (.ref 1), none] [] h (fun v h' => v = none ∧ SH h h' ∧ Q (some (.int (J (tkV tp L j)))) h') := by
    intro c0 e
    subst c0
    exact m24n C (by omega) T (fun h' F T' => ⟨rfl, F.1, k2 rfl e h' (F.mo (fun _ _ => TTk_f)) T'⟩)
  refine ⟨fun c0 => ⟨fun c1 => ⟨by omega, fun c2 => ?_, fun c2 => ⟨by omega, fun c3 => ?_, fun c3 => ⟨fun c4 => ?_, fun c4 => ⟨fun c5 => ?_, fun c5 => ?_⟩⟩⟩⟩, fun c1 => ?_⟩, k0⟩
  · exact fl c0 1 (by omega) (by unfold nmF; rw [pI_pos c1, pI_neg (by omega)])
  · exact fl c0 1 (by omega) (by unfold nmF; rw [pI_pos c1, pI_neg (by omega)])
  · exact ok c0 (by unfold nmF; rw [pI_pos c1, pI_pos ⟨by omega, hb2 _ c4 (by omega)⟩])
  · exact ok c0 (by unfold nmF; rw [pI_pos c1, pI_pos ⟨by omega, fun z => c5 ((hb _ (by omega) (by omega) (by omega)).mpr z)⟩])
  · exact fl c0 1 (by omega) (by unfold nmF; rw [pI_pos c1, pI_neg (fun z => z.2 ((hb _ (by omega) (by omega) (by omega)).mp c5))])
  · exact fl c0 0 (by omega) (by unfold nmF; rw [pI_neg c1]; omega)
