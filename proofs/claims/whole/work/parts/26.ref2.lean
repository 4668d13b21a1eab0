/-! FRAMES, SUMS, WAYS; the reference's doorsTo. -/
/-- nothing but the places of T (a cell, a place in it) has changed -/
def Fr (T : Nat → Nat → Prop) (h h' : AH) : Prop := SH h h' ∧ ∀ c k, ¬ T c k → hI h' c k = hI h c k ∧ hL h' c k = hL h c k
theorem Fr.rf {T : Nat → Nat → Prop} {h : AH} : Fr T h h := ⟨SH.rf, fun _ _ _ => ⟨rfl, rfl⟩⟩
theorem Fr.tr {T : Nat → Nat → Prop} {a b c : AH} (x : Fr T a b) (y : Fr T b c) : Fr T a c :=
  ⟨x.1.tr y.1, fun i k n => ⟨(y.2 i k n).1.trans (x.2 i k n).1, (y.2 i k n).2.trans (x.2 i k n).2⟩⟩
theorem Fr.mo {T U : Nat → Nat → Prop} {a b : AH} (x : Fr T a b) (s : ∀ c k, T c k → U c k) : Fr U a b := ⟨x.1, fun c k n => x.2 c k fun t => n (s c k t)⟩
theorem Fr.a {T : Nat → Nat → Prop} {h h' : AH} (x : Fr T h h') (c : Nat) (n : ∀ k, ¬ T c k) : aI h' c = aI h c := by
  funext e; unfold aI; rw [(x.2 c _ (n _)).1]
theorem Fr.f {T : Nat → Nat → Prop} {h h' : AH} (x : Fr T h h') (c k : Nat) (n : ¬ T c k) : fI h' c k = fI h c k := by
  unfold fI; rw [(x.2 c k n).1]
theorem Fr.l {T : Nat → Nat → Prop} {h h' : AH} (x : Fr T h h') (c : Nat) (n : ∀ k, ¬ T c k) : aL h' c = aL h c := by
  funext e; unfold aL; rw [(x.2 c _ (n _)).2]
theorem Fr.wI {T : Nat → Nat → Prop} {h h' : AH} (x : Fr T h h') {c j : Nat} {v : Int32} (t : T c j) : Fr T h (wI h' c j v) :=
  ⟨x.1, fun i k n => ⟨by
    rw [← (x.2 i k n).1]
    by_cases q : i = c
    · subst q
      rw [hI_wI_eq]
      exact va_up_other _ _ (fun z => n (z ▸ t))
    · rw [hI_wI_ne q], (x.2 i k n).2⟩⟩
theorem Fr.wA {T : Nat → Nat → Prop} {h h' : AH} (x : Fr T h h') {c : Nat} {e v : Int} (t : T c (tn e)) : Fr T h (wA h' c e v) := Fr.wI x t
theorem Fr.wF {T : Nat → Nat → Prop} {h h' : AH} (x : Fr T h h') {c j : Nat} {v : Int} (t : T c j) : Fr T h (wF h' c j v) := Fr.wI x t
theorem Fr.wL {T : Nat → Nat → Prop} {h h' : AH} (x : Fr T h h') {c j : Nat} {v : Int64} (t : T c j) : Fr T h (wL h' c j v) :=
  ⟨x.1, fun i k n => ⟨(x.2 i k n).1, by
    rw [← (x.2 i k n).2]
    show va_up (hL h') c _ i k = _
    by_cases q : i = c
    · subst q
      rw [va_up_same]
      exact va_up_other _ _ (fun z => n (z ▸ t))
    · rw [va_up_other _ _ q]⟩⟩
theorem Fr.wAL {T : Nat → Nat → Prop} {h h' : AH} (x : Fr T h h') {c : Nat} {e : Int} {v : Int64} (t : T c (tn e)) : Fr T h (wAL h' c e v) := Fr.wL x t
theorem Fr.C {T : Nat → Nat → Prop} {h h' : AH} (x : Fr T h h') (C : Lay h) : Lay h' := Lay_SH x.1 C
/-- a sum over 0 .. n - 1 -/
def sumN : Nat → (Int → Int) → Int
  | 0, _ => 0
  | n + 1, f => sumN n f + f n
theorem sumN_uu {f : Int → Int} {b v : Int} : ∀ {n : Nat}, n ≤ 2147483648 → 0 ≤ b ∧ b < (n : Int) → sumN n (uu_ f b v) = sumN n f + v - f b := by
  have low : ∀ (n : Nat), n ≤ 2147483648 → 0 ≤ b → (n : Int) ≤ b → b < 2147483648 → sumN n (uu_ f b v) = sumN n f := by
    intro n
    induction n with
    | zero => intros; rfl
    | succ n ih =>
      intro h1 h2 h3 h4
      unfold sumN
      rw [ih (by omega) h2 (by omega) h4, uu_ne ⟨h2, h4⟩ ⟨by omega, by omega⟩ (by omega)]
  intro n
  induction n with
  | zero => intro _ h; omega
  | succ n ih =>
    intro h1 h2
    unfold sumN
    by_cases q : b = n
    · subst q; rw [low n (by omega) h2.1 (by omega) (by omega), uu_eq]; omega
    · rw [ih (by omega) (by omega), uu_ne ⟨h2.1, by omega⟩ ⟨by omega, by omega⟩ (fun z => q z.symm)]; omega
theorem sumN_nn {f : Int → Int} : ∀ {n : Nat}, (∀ k : Int, 0 ≤ k → k < n → 0 ≤ f k) → 0 ≤ sumN n f := by
  intro n
  induction n with
  | zero => intro _; exact Int.le_refl 0
  | succ n ih =>
    intro h
    have a := ih (fun k h1 h2 => h k h1 (by omega))
    have b := h n (by omega) (by omega)
    unfold sumN; omega
/-- a way of n steps -/
def wk (A : Int → Int → Prop) : Nat → Int → Int → Prop
  | 0, a, b => a = b
  | n + 1, a, b => ∃ c, A a c ∧ wk A n c b
/-- the least n with P n, or 99 -/
def IsL (P : Nat → Prop) (v : Int) : Prop := (0 ≤ v ∧ v ≤ 99) ∧ (v < 99 → P v.toNat) ∧ ∀ n : Nat, P n → v ≤ n
theorem IsL.uniq {P : Nat → Prop} {v u : Int} (a : IsL P v) (b : IsL P u) : v = u := by
  obtain ⟨a1, a2, a3⟩ := a
  obtain ⟨b1, b2, b3⟩ := b
  by_cases x : v < 99
  · have := b3 _ (a2 x)
    by_cases y : u < 99
    · have := a3 _ (b2 y); omega
    · omega
  · by_cases y : u < 99
    · have := a3 _ (b2 y); omega
    · omega
noncomputable def lv (P : Nat → Prop) : Int := @dite Int (∃ v, IsL P v) (Classical.propDecidable _) (fun h => Classical.choose h) (fun _ => 99)
theorem lv_eq {P : Nat → Prop} {v : Int} (h : IsL P v) : lv P = v := by
  have e : ∃ v, IsL P v := ⟨v, h⟩
  unfold lv
  rw [dif_pos e]
  exact (Classical.choose_spec e).uniq h
def adj (S : Int → Int) (t : Prop) (a b : Int) : Prop := ∃ d, (0 ≤ d ∧ d < S 1) ∧ opn S t d ∧ ((nr S d = a ∧ fr S d = b) ∨ (nr S d = b ∧ fr S d = a))
/-- LEFT -/
noncomputable def lft (S : Int → Int) (t : Prop) (a b : Int) : Int := lv fun n => wk (adj S t) n a b
theorem adj_sy {S : Int → Int} {t : Prop} {a b : Int} (h : adj S t a b) : adj S t b a := by
  obtain ⟨d, h1, h2, h3⟩ := h
  exact ⟨d, h1, h2, h3.symm⟩
theorem adj_in {N : Int} {S : Int → Int} {t : Prop} {a b : Int} (W : WF N S) (h : adj S t a b) : (0 ≤ a ∧ a < S 0) ∧ (0 ≤ b ∧ b < S 0) := by
  obtain ⟨d, h1, h2, h3⟩ := h
  have := W.2.2.2.1 d h1.1 h1.2
  omega
/-- what the doors ask of a table of LEFT -/
def Stab (S : Int → Int) (t : Prop) (D : Int → Int) : Prop := ∀ a b, adj S t a b → D a ≤ D b + 1
theorem Stab.le {S : Int → Int} {t : Prop} {D : Int → Int} (h : Stab S t D) {g : Int} (hg : D g = 0) : ∀ (n : Nat) (a : Int), wk (adj S t) n a g → D a ≤ n := by
  intro n
  induction n with
  | zero => intro a w; cases w; omega
  | succ n ih => intro a w; obtain ⟨c, h1, h2⟩ := w; have := ih c h2; have := h a c h1; omega
def IV (S : Int → Int) (t : Prop) (g : Int) (D : Int → Int) : Prop := D g = 0 ∧ ∀ r, 0 ≤ r → r < S 0 → (0 ≤ D r ∧ D r ≤ 99) ∧ (D r < 99 → wk (adj S t) (D r).toNat r g)
theorem IV.up {S : Int → Int} {t : Prop} {g : Int} {D : Int → Int} (h : IV S t g D) (hS : S 0 ≤ 8) (hg : 0 ≤ g ∧ g < S 0) {a b : Int} (ha : 0 ≤ a ∧ a < S 0) (hb : 0 ≤ b ∧ b < S 0) (e : adj S t b a) (l : D a + 1 < D b) : IV S t g (uu_ D b (D a + 1)) := by
  have ra := h.2 a ha.1 ha.2
  have rb := h.2 b hb.1 hb.2
  refine ⟨?_, fun r h1 h2 => ?_⟩
  · have : ¬ g = b := by intro q; subst q; have := h.1; omega
    rw [uu_ne ⟨by omega, by omega⟩ ⟨by omega, by omega⟩ this]; exact h.1
  · by_cases q : r = b
    · subst q
      rw [uu_eq]
      refine ⟨by omega, fun _ => ?_⟩
      have : (D a + 1).toNat = (D a).toNat + 1 := by omega
      rw [this]
      exact ⟨a, e, ra.2 (by omega)⟩
    · rw [uu_ne ⟨by omega, by omega⟩ ⟨by omega, by omega⟩ q]; exact h.2 r h1 h2
-- OutwardDoorsModel.fillsDoors(I)V at 0
set_option maxRecDepth 20000 in
set_option maxHeartbeats 4000000 in
theorem r216_0 {X : Cst} {d : Nat} {x1 : Int} {h : AH} {Q : Post} (C_h : Lay h)
  (w : Ex X PG (d + 1) 216 2 [some (.ref 256), some (.int (J x1)), some (.int (J 0)), none, none, none] [] h Q) :
    Ex X PG (d + 1) 216 0 [some (.ref 256), some (.int (J x1)), none, none, none, none] [] h Q := by
  refine wpx_ok (cut := [2, 37, 45]) 2 d 216 0 _ _ _ _ ?_
  show Ex X PG (d + 1) 216 2 [some (.ref 256), some (.int (J x1)), some (.int (J 0)), none, none, none] [] h Q
  try simp only [aI_wAL, fI_wAL, aL_wA, aL_wF, aI_wA_ne, aI_wF_ne, fI_wA_ne, fI_wF_ne, fI_wF_nk, aL_wAL_ne, J_sameA, J_sameF, aL_same, Nat.add_left_cancel_iff, Nat.add_eq_left, Nat.left_eq_add, not_false_eq_true, Nat.reduceEqDiff, Nat.reduceAdd, J_add, J_sub, J_mul, J_neg, J_and, J_or, J_xor, J_shl, J_shr, J_div, J_i2b, J_i2l, J_l2i, J_lcm, J_max, J_min, J_nab, J_nao, rdA, rdF, rdL, wA_fold, wF_fold, wL_fold, wC_fold]
  exact w
-- OutwardDoorsModel.fillsDoors(I)V at 2
set_option maxRecDepth 20000 in
set_option maxHeartbeats 4000000 in
theorem r216_2 {X : Cst} {d : Nat} {x1 : Int} {x2 : Int} {l3 : Option Value} {l4 : Option Value} {l5 : Option Value} {h : AH} {Q : Post} (C_h : Lay h)
  (w : (-2147483648 ≤ x2 ∧ x2 < 2147483648) ∧ ((aI h 266 0 ≤ x2 → Ex X PG (d + 1) 216 37 [some (.ref 256), some (.int (J x1)), some (.int (J 1)), l3, l4, l5] [] h Q) ∧ (¬ aI h 266 0 ≤ x2 → (-2147483648 ≤ x1 ∧ x1 < 2147483648) ∧ ((¬ x2 = x1 → (0 ≤ x2 ∧ x2 < 8) ∧ Ex X PG (d + 1) 216 2 [some (.ref 256), some (.int (J x1)), some (.int (J (x2 + 1))), l3, l4, l5] [] (wA h 267 x2 99) Q) ∧ (x2 = x1 → (0 ≤ x2 ∧ x2 < 8) ∧ Ex X PG (d + 1) 216 2 [some (.ref 256), some (.int (J x1)), some (.int (J (x2 + 1))), l3, l4, l5] [] (wA h 267 x2 0) Q))))) :
    Ex X PG (d + 1) 216 2 [some (.ref 256), some (.int (J x1)), some (.int (J x2)), l3, l4, l5] [] h Q := by
  refine wpx_ok (cut := [2, 37, 45]) 17 d 216 2 _ _ _ _ ?_
  show hs h 256 = (0, 11) ∧ ∃ q1, hR h 256 20 = some q1 ∧ (hs h q1).1 = 1 ∧ ix (J 0) (hs h q1).2 ∧ (((hI h q1 (Int32.toNatClampNeg (J 0))) ≤ (J x2) → Ex X PG (d + 1) 216 37 [some (.ref 256), some (.int (J x1)), some (.int (J 1)), l3, l4, l5] [] h Q) ∧ (¬ ((hI h q1 (Int32.toNatClampNeg (J 0))) ≤ (J x2)) → hs h 256 = (0, 11) ∧ ∃ q5, hR h 256 23 = some q5 ∧ ((¬ (J x2) = (J x1) → (hs h q5).1 = 1 ∧ ix (J x2) (hs h q5).2 ∧ Ex X PG (d + 1) 216 2 [some (.ref 256), some (.int (J x1)), some (.int ((J x2) + (J 1))), l3, l4, l5] [] (wI h q5 (Int32.toNatClampNeg (J x2)) (J 99)) Q) ∧ (¬ (¬ (J x2) = (J x1)) → (hs h q5).1 = 1 ∧ ix (J x2) (hs h q5).2 ∧ Ex X PG (d + 1) 216 2 [some (.ref 256), some (.int (J x1)), some (.int ((J x2) + (J 1))), l3, l4, l5] [] (wI h q5 (Int32.toNatClampNeg (J x2)) (J 0)) Q))))
  try simp only [aI_wAL, fI_wAL, aL_wA, aL_wF, aI_wA_ne, aI_wF_ne, fI_wA_ne, fI_wF_ne, fI_wF_nk, aL_wAL_ne, J_sameA, J_sameF, aL_same, Nat.add_left_cancel_iff, Nat.add_eq_left, Nat.left_eq_add, not_false_eq_true, Nat.reduceEqDiff, Nat.reduceAdd, J_add, J_sub, J_mul, J_neg, J_and, J_or, J_xor, J_shl, J_shr, J_div, J_i2b, J_i2l, J_l2i, J_lcm, J_max, J_min, J_nab, J_nao, rdA, rdF, rdL, wA_fold, wF_fold, wL_fold, wC_fold]
  refine ⟨(ls256 C_h), _, (lr256_20 C_h), ?_⟩
  refine ⟨congrArg Prod.fst (ls266 C_h), ixs (ls266 C_h) (by decide) (by decide), ?_⟩
  obtain ⟨k4, w⟩ := w
  refine ⟨fun c2 => ?_, fun c2 => ?_⟩
  · have t3 : aI h 266 0 ≤ x2 := ((Jle (rg_toInt _) k4).mp c2)
    replace w := w.1 t3
    exact w
  · have t3 : ¬ aI h 266 0 ≤ x2 := (fun e => c2 ((Jle (rg_toInt _) k4).mpr e))
    replace w := w.2 t3
    refine ⟨(ls256 C_h), _, (lr256_23 C_h), ?_⟩
    obtain ⟨k8, w⟩ := w
    refine ⟨fun c6 => ?_, fun c6 => ?_⟩
    · have t7 : ¬ x2 = x1 := (fun e => c6 ((Jeq k4 k8).mpr e))
      replace w := w.1 t7
      obtain ⟨k9, w⟩ := w
      refine ⟨congrArg Prod.fst (ls267 C_h), ixs (ls267 C_h) k9 (by decide), ?_⟩
      exact w
    · have t7 : x2 = x1 := ((Jeq k4 k8).mp (Classical.byContradiction c6))
      replace w := w.2 t7
      obtain ⟨k10, w⟩ := w
      refine ⟨congrArg Prod.fst (ls267 C_h), ixs (ls267 C_h) k10 (by decide), ?_⟩
      exact w
-- OutwardDoorsModel.fillsDoors(I)V at 37
set_option maxRecDepth 20000 in
set_option maxHeartbeats 4000000 in
theorem r216_37 {X : Cst} {d : Nat} {x1 : Int} {x2 : Int} {l3 : Option Value} {l4 : Option Value} {l5 : Option Value} {h : AH} {Q : Post} (C_h : Lay h)
  (w : (-2147483648 ≤ x2 ∧ x2 < 2147483648) ∧ ((x2 = 0 → Q none h) ∧ (¬ x2 = 0 → Ex X PG (d + 1) 216 45 [some (.ref 256), some (.int (J x1)), some (.int (J 0)), some (.int (J 0)), l4, l5] [] h Q))) :
    Ex X PG (d + 1) 216 37 [some (.ref 256), some (.int (J x1)), some (.int (J x2)), l3, l4, l5] [] h Q := by
  refine wpx_ok (cut := [2, 37, 45]) 6 d 216 37 _ _ _ _ ?_
  show (((J x2) = (J 0) → Q none h) ∧ (¬ ((J x2) = (J 0)) → Ex X PG (d + 1) 216 45 [some (.ref 256), some (.int (J x1)), some (.int (J 0)), some (.int (J 0)), l4, l5] [] h Q))
  try simp only [aI_wAL, fI_wAL, aL_wA, aL_wF, aI_wA_ne, aI_wF_ne, fI_wA_ne, fI_wF_ne, fI_wF_nk, aL_wAL_ne, J_sameA, J_sameF, aL_same, Nat.add_left_cancel_iff, Nat.add_eq_left, Nat.left_eq_add, not_false_eq_true, Nat.reduceEqDiff, Nat.reduceAdd, J_add, J_sub, J_mul, J_neg, J_and, J_or, J_xor, J_shl, J_shr, J_div, J_i2b, J_i2l, J_l2i, J_lcm, J_max, J_min, J_nab, J_nao, rdA, rdF, rdL, wA_fold, wF_fold, wL_fold, wC_fold]
  obtain ⟨k3, w⟩ := w
  refine ⟨fun c1 => ?_, fun c1 => ?_⟩
  · have t2 : x2 = 0 := ((Jeq k3 (by decide)).mp c1)
    replace w := w.1 t2
    exact w
  · have t2 : ¬ x2 = 0 := (fun e => c1 ((Jeq k3 (by decide)).mpr e))
    replace w := w.2 t2
    exact w
-- OutwardDoorsModel.fillsDoors(I)V at 45
set_option maxRecDepth 20000 in
set_option maxHeartbeats 4000000 in
theorem r216_45 {X : Cst} {d : Nat} {x1 : Int} {x2 : Int} {x3 : Int} {l4 : Option Value} {l5 : Option Value} {h : AH} {Q : Post} (C_h : Lay h) (hd : 2 ≤ d)
  (w : (-2147483648 ≤ x3 ∧ x3 < 2147483648) ∧ ((aI h 266 1 ≤ x3 → Ex X PG (d + 1) 216 37 [some (.ref 256), some (.int (J x1)), some (.int (J x2)), some (.int (J x3)), l4, l5] [] h Q) ∧ (¬ aI h 266 1 ≤ x3 → (WF 999 (aI h 266)) ∧ (0 ≤ x3 ∧ x3 < aI h 266 1) ∧ (((opn (aI h 266) (nightP (aI h 266)) x3) → (0 ≤ x3 ∧ x3 < 14) ∧ (0 ≤ nr (aI h 266) x3 ∧ nr (aI h 266) x3 < 8) ∧ (0 ≤ fr (aI h 266) x3 ∧ fr (aI h 266) x3 < 8) ∧ (-2147483648 ≤ (aI h 267 (nr (aI h 266) x3)) + 1 ∧ (aI h 267 (nr (aI h 266) x3)) + 1 < 2147483648) ∧ ((aI h 267 (fr (aI h 266) x3) ≤ (aI h 267 (nr (aI h 266) x3)) + 1 → (-2147483648 ≤ (aI h 267 (fr (aI h 266) x3)) + 1 ∧ (aI h 267 (fr (aI h 266) x3)) + 1 < 2147483648) ∧ ((aI h 267 (nr (aI h 266) x3) ≤ (aI h 267 (fr (aI h 266) x3)) + 1 → Ex X PG (d + 1) 216 45 [some (.ref 256), some (.int (J x1)), some (.int (J x2)), some (.int (J (x3 + 1))), some (.int (J (nr (aI h 266) x3))), some (.int (J (fr (aI h 266) x3)))] [] h Q) ∧ (¬ aI h 267 (nr (aI h 266) x3) ≤ (aI h 267 (fr (aI h 266) x3)) + 1 → Ex X PG (d + 1) 216 45 [some (.ref 256), some (.int (J x1)), some (.int (J 1)), some (.int (J (x3 + 1))), some (.int (J (nr (aI h 266) x3))), some (.int (J (fr (aI h 266) x3)))] [] (wA h 267 (nr (aI h 266) x3) ((aI h 267 (fr (aI h 266) x3)) + 1)) Q))) ∧ (¬ aI h 267 (fr (aI h 266) x3) ≤ (aI h 267 (nr (aI h 266) x3)) + 1 → (-2147483648 ≤ ((aI h 267 (nr (aI h 266) x3)) + 1) + 1 ∧ ((aI h 267 (nr (aI h 266) x3)) + 1) + 1 < 2147483648) ∧ ((aI (wA h 267 (fr (aI h 266) x3) ((aI h 267 (nr (aI h 266) x3)) + 1)) 267 (nr (aI h 266) x3) ≤ ((aI h 267 (nr (aI h 266) x3)) + 1) + 1 → Ex X PG (d + 1) 216 45 [some (.ref 256), some (.int (J x1)), some (.int (J 1)), some (.int (J (x3 + 1))), some (.int (J (nr (aI h 266) x3))), some (.int (J (fr (aI h 266) x3)))] [] (wA h 267 (fr (aI h 266) x3) ((aI h 267 (nr (aI h 266) x3)) + 1)) Q) ∧ (¬ aI (wA h 267 (fr (aI h 266) x3) ((aI h 267 (nr (aI h 266) x3)) + 1)) 267 (nr (aI h 266) x3) ≤ ((aI h 267 (nr (aI h 266) x3)) + 1) + 1 → Ex X PG (d + 1) 216 45 [some (.ref 256), some (.int (J x1)), some (.int (J 1)), some (.int (J (x3 + 1))), some (.int (J (nr (aI h 266) x3))), some (.int (J (fr (aI h 266) x3)))] [] (wA (wA h 267 (fr (aI h 266) x3) ((aI h 267 (nr (aI h 266) x3)) + 1)) 267 (nr (aI h 266) x3) (((aI h 267 (nr (aI h 266) x3)) + 1) + 1)) Q))))) ∧ (¬ (opn (aI h 266) (nightP (aI h 266)) x3) → Ex X PG (d + 1) 216 45 [some (.ref 256), some (.int (J x1)), some (.int (J x2)), some (.int (J (x3 + 1))), l4, l5] [] h Q))))) :
    Ex X PG (d + 1) 216 45 [some (.ref 256), some (.int (J x1)), some (.int (J x2)), some (.int (J x3)), l4, l5] [] h Q := by
  refine wpx_ok (cut := [2, 37, 45]) 66 d 216 45 _ _ _ _ ?_
  show hs h 256 = (0, 11) ∧ ∃ q1, hR h 256 20 = some q1 ∧ (hs h q1).1 = 1 ∧ ix (J 1) (hs h q1).2 ∧ (((hI h q1 (Int32.toNatClampNeg (J 1))) ≤ (J x3) → Ex X PG (d + 1) 216 37 [some (.ref 256), some (.int (J x1)), some (.int (J x2)), some (.int (J x3)), l4, l5] [] h Q) ∧ (¬ ((hI h q1 (Int32.toNatClampNeg (J 1))) ≤ (J x3)) → hs h 256 = (0, 11) ∧ Ex X PG d 217 0 [some (.ref 256), some (.int (J x3))] [] h (fun v5 h6 => ∃ r7, v5 = some (.int r7) ∧ ((¬ r7 = (J 0) → hs h6 256 = (0, 11) ∧ Ex X PG d 218 0 [some (.ref 256), some (.int (J x3))] [] h6 (fun v12 h13 => ∃ r14, v12 = some (.int r14) ∧ hs h13 256 = (0, 11) ∧ Ex X PG d 219 0 [some (.ref 256), some (.int (J x3))] [] h13 (fun v16 h17 => ∃ r18, v16 = some (.int r18) ∧ hs h17 256 = (0, 11) ∧ ∃ q19, hR h17 256 23 = some q19 ∧ (hs h17 q19).1 = 1 ∧ ix r14 (hs h17 q19).2 ∧ hs h17 256 = (0, 11) ∧ ∃ q21, hR h17 256 23 = some q21 ∧ (hs h17 q21).1 = 1 ∧ ix r18 (hs h17 q21).2 ∧ (((hI h17 q21 (Int32.toNatClampNeg r18)) ≤ ((hI h17 q19 (Int32.toNatClampNeg r14)) + (J 1)) → hs h17 256 = (0, 11) ∧ ∃ q26, hR h17 256 23 = some q26 ∧ (hs h17 q26).1 = 1 ∧ ix r18 (hs h17 q26).2 ∧ hs h17 256 = (0, 11) ∧ ∃ q27, hR h17 256 23 = some q27 ∧ (hs h17 q27).1 = 1 ∧ ix r14 (hs h17 q27).2 ∧ (((hI h17 q27 (Int32.toNatClampNeg r14)) ≤ ((hI h17 q26 (Int32.toNatClampNeg r18)) + (J 1)) → Ex X PG (d + 1) 216 45 [some (.ref 256), some (.int (J x1)), some (.int (J x2)), some (.int ((J x3) + (J 1))), some (.int r14), some (.int r18)] [] h17 Q) ∧ (¬ ((hI h17 q27 (Int32.toNatClampNeg r14)) ≤ ((hI h17 q26 (Int32.toNatClampNeg r18)) + (J 1))) → hs h17 256 = (0, 11) ∧ ∃ q31, hR h17 256 23 = some q31 ∧ hs h17 256 = (0, 11) ∧ ∃ q32, hR h17 256 23 = some q32 ∧ (hs h17 q32).1 = 1 ∧ ix r18 (hs h17 q32).2 ∧ (hs h17 q31).1 = 1 ∧ ix r14 (hs h17 q31).2 ∧ Ex X PG (d + 1) 216 45 [some (.ref 256), some (.int (J x1)), some (.int (J 1)), some (.int ((J x3) + (J 1))), some (.int r14), some (.int r18)] [] (wI h17 q31 (Int32.toNatClampNeg r14) ((hI h17 q32 (Int32.toNatClampNeg r18)) + (J 1))) Q))) ∧ (¬ ((hI h17 q21 (Int32.toNatClampNeg r18)) ≤ ((hI h17 q19 (Int32.toNatClampNeg r14)) + (J 1))) → hs h17 256 = (0, 11) ∧ ∃ q33, hR h17 256 23 = some q33 ∧ hs h17 256 = (0, 11) ∧ ∃ q34, hR h17 256 23 = some q34 ∧ (hs h17 q34).1 = 1 ∧ ix r14 (hs h17 q34).2 ∧ (hs h17 q33).1 = 1 ∧ ix r18 (hs h17 q33).2 ∧ hs (wI h17 q33 (Int32.toNatClampNeg r18) ((hI h17 q34 (Int32.toNatClampNeg r14)) + (J 1))) 256 = (0, 11) ∧ ∃ q35, hR (wI h17 q33 (Int32.toNatClampNeg r18) ((hI h17 q34 (Int32.toNatClampNeg r14)) + (J 1))) 256 23 = some q35 ∧ (hs (wI h17 q33 (Int32.toNatClampNeg r18) ((hI h17 q34 (Int32.toNatClampNeg r14)) + (J 1))) q35).1 = 1 ∧ ix r18 (hs (wI h17 q33 (Int32.toNatClampNeg r18) ((hI h17 q34 (Int32.toNatClampNeg r14)) + (J 1))) q35).2 ∧ hs (wI h17 q33 (Int32.toNatClampNeg r18) ((hI h17 q34 (Int32.toNatClampNeg r14)) + (J 1))) 256 = (0, 11) ∧ ∃ q36, hR (wI h17 q33 (Int32.toNatClampNeg r18) ((hI h17 q34 (Int32.toNatClampNeg r14)) + (J 1))) 256 23 = some q36 ∧ (hs (wI h17 q33 (Int32.toNatClampNeg r18) ((hI h17 q34 (Int32.toNatClampNeg r14)) + (J 1))) q36).1 = 1 ∧ ix r14 (hs (wI h17 q33 (Int32.toNatClampNeg r18) ((hI h17 q34 (Int32.toNatClampNeg r14)) + (J 1))) q36).2 ∧ (((hI (wI h17 q33 (Int32.toNatClampNeg r18) ((hI h17 q34 (Int32.toNatClampNeg r14)) + (J 1))) q36 (Int32.toNatClampNeg r14)) ≤ ((hI (wI h17 q33 (Int32.toNatClampNeg r18) ((hI h17 q34 (Int32.toNatClampNeg r14)) + (J 1))) q35 (Int32.toNatClampNeg r18)) + (J 1)) → Ex X PG (d + 1) 216 45 [some (.ref 256), some (.int (J x1)), some (.int (J 1)), some (.int ((J x3) + (J 1))), some (.int r14), some (.int r18)] [] (wI h17 q33 (Int32.toNatClampNeg r18) ((hI h17 q34 (Int32.toNatClampNeg r14)) + (J 1))) Q) ∧ (¬ ((hI (wI h17 q33 (Int32.toNatClampNeg r18) ((hI h17 q34 (Int32.toNatClampNeg r14)) + (J 1))) q36 (Int32.toNatClampNeg r14)) ≤ ((hI (wI h17 q33 (Int32.toNatClampNeg r18) ((hI h17 q34 (Int32.toNatClampNeg r14)) + (J 1))) q35 (Int32.toNatClampNeg r18)) + (J 1))) → hs (wI h17 q33 (Int32.toNatClampNeg r18) ((hI h17 q34 (Int32.toNatClampNeg r14)) + (J 1))) 256 = (0, 11) ∧ ∃ q40, hR (wI h17 q33 (Int32.toNatClampNeg r18) ((hI h17 q34 (Int32.toNatClampNeg r14)) + (J 1))) 256 23 = some q40 ∧ hs (wI h17 q33 (Int32.toNatClampNeg r18) ((hI h17 q34 (Int32.toNatClampNeg r14)) + (J 1))) 256 = (0, 11) ∧ ∃ q41, hR (wI h17 q33 (Int32.toNatClampNeg r18) ((hI h17 q34 (Int32.toNatClampNeg r14)) + (J 1))) 256 23 = some q41 ∧ (hs (wI h17 q33 (Int32.toNatClampNeg r18) ((hI h17 q34 (Int32.toNatClampNeg r14)) + (J 1))) q41).1 = 1 ∧ ix r18 (hs (wI h17 q33 (Int32.toNatClampNeg r18) ((hI h17 q34 (Int32.toNatClampNeg r14)) + (J 1))) q41).2 ∧ (hs (wI h17 q33 (Int32.toNatClampNeg r18) ((hI h17 q34 (Int32.toNatClampNeg r14)) + (J 1))) q40).1 = 1 ∧ ix r14 (hs (wI h17 q33 (Int32.toNatClampNeg r18) ((hI h17 q34 (Int32.toNatClampNeg r14)) + (J 1))) q40).2 ∧ Ex X PG (d + 1) 216 45 [some (.ref 256), some (.int (J x1)), some (.int (J 1)), some (.int ((J x3) + (J 1))), some (.int r14), some (.int r18)] [] (wI (wI h17 q33 (Int32.toNatClampNeg r18) ((hI h17 q34 (Int32.toNatClampNeg r14)) + (J 1))) q40 (Int32.toNatClampNeg r14) ((hI (wI h17 q33 (Int32.toNatClampNeg r18) ((hI h17 q34 (Int32.toNatClampNeg r14)) + (J 1))) q41 (Int32.toNatClampNeg r18)) + (J 1))) Q))))))) ∧ (¬ (¬ r7 = (J 0)) → Ex X PG (d + 1) 216 45 [some (.ref 256), some (.int (J x1)), some (.int (J x2)), some (.int ((J x3) + (J 1))), l4, l5] [] h6 Q)))))
  try simp only [aI_wAL, fI_wAL, aL_wA, aL_wF, aI_wA_ne, aI_wF_ne, fI_wA_ne, fI_wF_ne, fI_wF_nk, aL_wAL_ne, J_sameA, J_sameF, aL_same, Nat.add_left_cancel_iff, Nat.add_eq_left, Nat.left_eq_add, not_false_eq_true, Nat.reduceEqDiff, Nat.reduceAdd, J_add, J_sub, J_mul, J_neg, J_and, J_or, J_xor, J_shl, J_shr, J_div, J_i2b, J_i2l, J_l2i, J_lcm, J_max, J_min, J_nab, J_nao, rdA, rdF, rdL, wA_fold, wF_fold, wL_fold, wC_fold]
  refine ⟨(ls256 C_h), _, (lr256_20 C_h), ?_⟩
  refine ⟨congrArg Prod.fst (ls266 C_h), ixs (ls266 C_h) (by decide) (by decide), ?_⟩
  obtain ⟨k4, w⟩ := w
  refine ⟨fun c2 => ?_, fun c2 => ?_⟩
  · have t3 : aI h 266 1 ≤ x3 := ((Jle (rg_toInt _) k4).mp c2)
    replace w := w.1 t3
    exact w
  · have t3 : ¬ aI h 266 1 ≤ x3 := (fun e => c2 ((Jle (rg_toInt _) k4).mpr e))
    replace w := w.2 t3
    refine ⟨(ls256 C_h), ?_⟩
    obtain ⟨k8, w⟩ := w
    obtain ⟨k9, w⟩ := w
    refine m217 (h := h) (x := x3) C_h (by omega) k8 k9 ?_
    refine ⟨_, rfl, ?_⟩
    try simp only [aI_wAL, fI_wAL, aL_wA, aL_wF, aI_wA_ne, aI_wF_ne, fI_wA_ne, fI_wF_ne, fI_wF_nk, aL_wAL_ne, J_sameA, J_sameF, aL_same, Nat.add_left_cancel_iff, Nat.add_eq_left, Nat.left_eq_add, not_false_eq_true, Nat.reduceEqDiff, Nat.reduceAdd, J_add, J_sub, J_mul, J_neg, J_and, J_or, J_xor, J_shl, J_shr, J_div, J_i2b, J_i2l, J_l2i, J_lcm, J_max, J_min, J_nab, J_nao, rdA, rdF, rdL, wA_fold, wF_fold, wL_fold, wC_fold]
    refine ⟨fun c10 => ?_, fun c10 => ?_⟩
    · have t11 : (opn (aI h 266) (nightP (aI h 266)) x3) := (Classical.byContradiction fun n => c10 ((bI0 _).mpr n))
      replace w := w.1 t11
      refine ⟨(ls256 C_h), ?_⟩
      obtain ⟨k15, w⟩ := w
      refine m218 (h := h) (x := x3) C_h (by omega) k15 ?_
      refine ⟨_, rfl, ?_⟩
      try simp only [aI_wAL, fI_wAL, aL_wA, aL_wF, aI_wA_ne, aI_wF_ne, fI_wA_ne, fI_wF_ne, fI_wF_nk, aL_wAL_ne, J_sameA, J_sameF, aL_same, Nat.add_left_cancel_iff, Nat.add_eq_left, Nat.left_eq_add, not_false_eq_true, Nat.reduceEqDiff, Nat.reduceAdd, J_add, J_sub, J_mul, J_neg, J_and, J_or, J_xor, J_shl, J_shr, J_div, J_i2b, J_i2l, J_l2i, J_lcm, J_max, J_min, J_nab, J_nao, rdA, rdF, rdL, wA_fold, wF_fold, wL_fold, wC_fold]
      refine ⟨(ls256 C_h), ?_⟩
      refine m219 (h := h) (x := x3) C_h (by omega) k15 ?_
      refine ⟨_, rfl, ?_⟩
      try simp only [aI_wAL, fI_wAL, aL_wA, aL_wF, aI_wA_ne, aI_wF_ne, fI_wA_ne, fI_wF_ne, fI_wF_nk, aL_wAL_ne, J_sameA, J_sameF, aL_same, Nat.add_left_cancel_iff, Nat.add_eq_left, Nat.left_eq_add, not_false_eq_true, Nat.reduceEqDiff, Nat.reduceAdd, J_add, J_sub, J_mul, J_neg, J_and, J_or, J_xor, J_shl, J_shr, J_div, J_i2b, J_i2l, J_l2i, J_lcm, J_max, J_min, J_nab, J_nao, rdA, rdF, rdL, wA_fold, wF_fold, wL_fold, wC_fold]
      refine ⟨(ls256 C_h), _, (lr256_23 C_h), ?_⟩
      obtain ⟨k20, w⟩ := w
      refine ⟨congrArg Prod.fst (ls267 C_h), ixs (ls267 C_h) k20 (by decide), ?_⟩
      refine ⟨(ls256 C_h), _, (lr256_23 C_h), ?_⟩
      obtain ⟨k22, w⟩ := w
      refine ⟨congrArg Prod.fst (ls267 C_h), ixs (ls267 C_h) k22 (by decide), ?_⟩
      obtain ⟨k25, w⟩ := w
      refine ⟨fun c23 => ?_, fun c23 => ?_⟩
      · have t24 : aI h 267 (fr (aI h 266) x3) ≤ (aI h 267 (nr (aI h 266) x3)) + 1 := ((Jle (rg_toInt _) k25).mp c23)
        replace w := w.1 t24
        refine ⟨(ls256 C_h), _, (lr256_23 C_h), ?_⟩
        refine ⟨congrArg Prod.fst (ls267 C_h), ixs (ls267 C_h) k22 (by decide), ?_⟩
        refine ⟨(ls256 C_h), _, (lr256_23 C_h), ?_⟩
        refine ⟨congrArg Prod.fst (ls267 C_h), ixs (ls267 C_h) k20 (by decide), ?_⟩
        obtain ⟨k30, w⟩ := w
        refine ⟨fun c28 => ?_, fun c28 => ?_⟩
        · have t29 : aI h 267 (nr (aI h 266) x3) ≤ (aI h 267 (fr (aI h 266) x3)) + 1 := ((Jle (rg_toInt _) k30).mp c28)
          replace w := w.1 t29
          exact w
        · have t29 : ¬ aI h 267 (nr (aI h 266) x3) ≤ (aI h 267 (fr (aI h 266) x3)) + 1 := (fun e => c28 ((Jle (rg_toInt _) k30).mpr e))
          replace w := w.2 t29
          refine ⟨(ls256 C_h), _, (lr256_23 C_h), ?_⟩
          refine ⟨(ls256 C_h), _, (lr256_23 C_h), ?_⟩
          refine ⟨congrArg Prod.fst (ls267 C_h), ixs (ls267 C_h) k22 (by decide), ?_⟩
          refine ⟨congrArg Prod.fst (ls267 C_h), ixs (ls267 C_h) k20 (by decide), ?_⟩
          exact w
      · have t24 : ¬ aI h 267 (fr (aI h 266) x3) ≤ (aI h 267 (nr (aI h 266) x3)) + 1 := (fun e => c23 ((Jle (rg_toInt _) k25).mpr e))
        replace w := w.2 t24
        refine ⟨(ls256 C_h), _, (lr256_23 C_h), ?_⟩
        refine ⟨(ls256 C_h), _, (lr256_23 C_h), ?_⟩
        refine ⟨congrArg Prod.fst (ls267 C_h), ixs (ls267 C_h) k20 (by decide), ?_⟩
        refine ⟨congrArg Prod.fst (ls267 C_h), ixs (ls267 C_h) k22 (by decide), ?_⟩
        refine ⟨(ls256 C_h), _, (lr256_23 C_h), ?_⟩
        refine ⟨congrArg Prod.fst (ls267 C_h), ixs (ls267 C_h) k22 (by decide), ?_⟩
        try simp only [aI_wAL, fI_wAL, aL_wA, aL_wF, aI_wA_ne, aI_wF_ne, fI_wA_ne, fI_wF_ne, fI_wF_nk, aL_wAL_ne, J_sameA, J_sameF, aL_same, Nat.add_left_cancel_iff, Nat.add_eq_left, Nat.left_eq_add, not_false_eq_true, Nat.reduceEqDiff, Nat.reduceAdd, same_aI k25]
        refine ⟨(ls256 C_h), _, (lr256_23 C_h), ?_⟩
        refine ⟨congrArg Prod.fst (ls267 C_h), ixs (ls267 C_h) k20 (by decide), ?_⟩
        obtain ⟨k39, w⟩ := w
        refine ⟨fun c37 => ?_, fun c37 => ?_⟩
        · have t38 : aI (wA h 267 (fr (aI h 266) x3) ((aI h 267 (nr (aI h 266) x3)) + 1)) 267 (nr (aI h 266) x3) ≤ ((aI h 267 (nr (aI h 266) x3)) + 1) + 1 := ((Jle (rg_toInt _) k39).mp c37)
          replace w := w.1 t38
          exact w
        · have t38 : ¬ aI (wA h 267 (fr (aI h 266) x3) ((aI h 267 (nr (aI h 266) x3)) + 1)) 267 (nr (aI h 266) x3) ≤ ((aI h 267 (nr (aI h 266) x3)) + 1) + 1 := (fun e => c37 ((Jle (rg_toInt _) k39).mpr e))
          replace w := w.2 t38
          refine ⟨(ls256 C_h), _, (lr256_23 C_h), ?_⟩
          refine ⟨(ls256 C_h), _, (lr256_23 C_h), ?_⟩
          refine ⟨congrArg Prod.fst (ls267 C_h), ixs (ls267 C_h) k22 (by decide), ?_⟩
          try simp only [aI_wAL, fI_wAL, aL_wA, aL_wF, aI_wA_ne, aI_wF_ne, fI_wA_ne, fI_wF_ne, fI_wF_nk, aL_wAL_ne, J_sameA, J_sameF, aL_same, Nat.add_left_cancel_iff, Nat.add_eq_left, Nat.left_eq_add, not_false_eq_true, Nat.reduceEqDiff, Nat.reduceAdd, same_aI k25]
          refine ⟨congrArg Prod.fst (ls267 C_h), ixs (ls267 C_h) k20 (by decide), ?_⟩
          exact w
    · have t11 : ¬ (opn (aI h 266) (nightP (aI h 266)) x3) := ((bI0 _).mp (Classical.byContradiction fun n => c10 n))
      replace w := w.2 t11
      exact w
theorem q216_2 {X : Cst} {d : Nat} {g : Int} {Q : Post} {h0 : AH} (C0 : Lay h0) (W : WF 999 (aI h0 266)) (hg : 0 ≤ g ∧ g < aI h0 266 0) (k : ∀ h' l3 l4 l5, Fr (fun c _ => c = 267) h0 h' → (∀ r, 0 ≤ r → r < aI h0 266 0 → aI h' 267 r = if r = g then 0 else 99) → Ex X PG (d + 1) 216 37 [some (.ref 256), some (.int (J g)), some (.int (J 1)), l3, l4, l5] [] h' Q) :
    ∀ (n : Nat) (i : Int) (h : AH) (l3 l4 l5 : Option Value), Fr (fun c _ => c = 267) h0 h → aI h0 266 0 - i ≤ n → 0 ≤ i → i ≤ aI h0 266 0 → (∀ r, 0 ≤ r → r < i → aI h 267 r = if r = g then 0 else 99) →
    Ex X PG (d + 1) 216 2 [some (.ref 256), some (.int (J g)), some (.int (J i)), l3, l4, l5] [] h Q := by
  have b := W.1
  unfold WFb at b
  intro n
  induction n with
  | zero =>
    intro i h l3 l4 l5 F h1 h2 h3 h4
    have e := F.a 266 (fun _ => by decide)
    refine r216_2 (F.C C0) ?_
    rw [e]
    exact ⟨by omega, fun _ => k h l3 l4 l5 F (fun r a c => h4 r a (by omega)), fun c => absurd (by omega) c⟩
  | succ n ih =>
    intro i h l3 l4 l5 F h1 h2 h3 h4
    have e := F.a 266 (fun _ => by decide)
    refine r216_2 (F.C C0) ?_
    rw [e]
    refine ⟨by omega, fun c => k h l3 l4 l5 F (fun r a c => h4 r a (by omega)), fun c => ⟨by omega, fun c2 => ⟨by omega, ?_⟩, fun c2 => ⟨by omega, ?_⟩⟩⟩
    · refine ih _ _ _ _ _ (F.wA rfl) (by omega) (by omega) (by omega) (fun r a b => ?_)
      rw [aI_wA (by decide)]
      by_cases q : r = i
      · subst q; rw [uu_eq, if_neg c2]
      · rw [uu_ne ⟨by omega, by omega⟩ ⟨by omega, by omega⟩ q]; exact h4 r a (by omega)
    · refine ih _ _ _ _ _ (F.wA rfl) (by omega) (by omega) (by omega) (fun r a b => ?_)
      rw [aI_wA (by decide)]
      by_cases q : r = i
      · subst q; rw [uu_eq, if_pos c2]
      · rw [uu_ne ⟨by omega, by omega⟩ ⟨by omega, by omega⟩ q]; exact h4 r a (by omega)
/-- one round over the doors; m: whether something has changed -/
theorem q216_45 {X : Cst} {d : Nat} {g : Int} {Q : Post} {h0 : AH} (C0 : Lay h0) (hd : 2 ≤ d) (W : WF 999 (aI h0 266)) (hg : 0 ≤ g ∧ g < aI h0 266 0) (s0 : Int)
    (k0 : ∀ h' l3 l4 l5, Fr (fun c _ => c = 267) h0 h' → IV (aI h0 266) (nightP (aI h0 266)) g (aI h' 267) → Stab (aI h0 266) (nightP (aI h0 266)) (aI h' 267) → Ex X PG (d + 1) 216 37 [some (.ref 256), some (.int (J g)), some (.int (J 0)), l3, l4, l5] [] h' Q)
    (k1 : ∀ h' l3 l4 l5, Fr (fun c _ => c = 267) h0 h' → IV (aI h0 266) (nightP (aI h0 266)) g (aI h' 267) → sumN (aI h0 266 0).toNat (aI h' 267) < s0 → Ex X PG (d + 1) 216 37 [some (.ref 256), some (.int (J g)), some (.int (J 1)), l3, l4, l5] [] h' Q) :
    ∀ (n : Nat) (j m : Int) (h : AH) (l4 l5 : Option Value), Fr (fun c _ => c = 267) h0 h → aI h0 266 1 - j ≤ n → 0 ≤ j → j ≤ aI h0 266 1 → IV (aI h0 266) (nightP (aI h0 266)) g (aI h 267) →
      (m = 0 ∧ (∀ e, 0 ≤ e → e < j → opn (aI h0 266) (nightP (aI h0 266)) e → aI h 267 (nr (aI h0 266) e) ≤ aI h 267 (fr (aI h0 266) e) + 1 ∧ aI h 267 (fr (aI h0 266) e) ≤ aI h 267 (nr (aI h0 266) e) + 1) ∧ sumN (aI h0 266 0).toNat (aI h 267) ≤ s0 ∨ m = 1 ∧ sumN (aI h0 266 0).toNat (aI h 267) < s0) →
    Ex X PG (d + 1) 216 45 [some (.ref 256), some (.int (J g)), some (.int (J m)), some (.int (J j)), l4, l5] [] h Q := by
  have b := W.1
  unfold WFb at b
  have fin : ∀ (j m : Int) (h : AH) (l4 l5 : Option Value), Fr (fun c _ => c = 267) h0 h → aI h0 266 1 ≤ j → IV (aI h0 266) (nightP (aI h0 266)) g (aI h 267) →
      (m = 0 ∧ (∀ e, 0 ≤ e → e < j → opn (aI h0 266) (nightP (aI h0 266)) e → aI h 267 (nr (aI h0 266) e) ≤ aI h 267 (fr (aI h0 266) e) + 1 ∧ aI h 267 (fr (aI h0 266) e) ≤ aI h 267 (nr (aI h0 266) e) + 1) ∧ sumN (aI h0 266 0).toNat (aI h 267) ≤ s0 ∨ m = 1 ∧ sumN (aI h0 266 0).toNat (aI h 267) < s0) →
      Ex X PG (d + 1) 216 37 [some (.ref 256), some (.int (J g)), some (.int (J m)), some (.int (J j)), l4, l5] [] h Q := by
    intro j m h l4 l5 F hj I o
    rcases o with ⟨rfl, o, -⟩ | ⟨rfl, o⟩
    · refine k0 _ _ _ _ F I (fun x y e => ?_)
      obtain ⟨e, e1, e2, e3⟩ := e
      have := o e e1.1 (by omega) e2
      rcases e3 with ⟨rfl, rfl⟩ | ⟨rfl, rfl⟩
      · exact this.1
      · exact this.2
    · exact k1 _ _ _ _ F I o
  intro n
  induction n with
  | zero =>
    intro j m h l4 l5 F h1 h2 h3 I o
    have e := F.a 266 (fun _ => by decide)
    refine r216_45 (F.C C0) hd ?_
    rw [e]
    exact ⟨by omega, fun c => fin _ _ _ _ _ F c I o, fun c => absurd (by omega) c⟩
  | succ n ih =>
    intro j m h l4 l5 F h1 h2 h3 I o
    have e := F.a 266 (fun _ => by decide)
    refine r216_45 (F.C C0) hd ?_
    rw [e]
    refine ⟨by omega, fun c => fin _ _ _ _ _ F c I o, fun c => ⟨W, by omega, fun c2 => ?_, fun c2 => ?_⟩⟩
    · have dd := W.2.2.2.1 j (by omega) (by omega)
      have ra := I.2 (nr (aI h0 266) j) (by omega) (by omega)
      have rb := I.2 (fr (aI h0 266) j) (by omega) (by omega)
      have ad : adj (aI h0 266) (nightP (aI h0 266)) (nr (aI h0 266) j) (fr (aI h0 266) j) := ⟨j, by omega, c2, Or.inl ⟨rfl, rfl⟩⟩
      refine ⟨by omega, by omega, by omega, by omega, fun c3 => ⟨by omega, fun c4 => ?_, fun c4 => ?_⟩, fun c3 => ?_⟩
      · refine ih _ _ _ _ _ F (by omega) (by omega) (by omega) I (o.imp (fun o => ⟨o.1, fun e a b c9 => ?_, o.2.2⟩) id)
        by_cases q : e = j
        · subst q; exact ⟨c4, c3⟩
        · exact o.2.1 e a (by omega) c9
      · refine ih _ _ _ _ _ (F.wA rfl) (by omega) (by omega) (by omega) ?_ (Or.inr ⟨rfl, ?_⟩)
        · rw [aI_wA (by omega)]
          exact I.up (by omega) hg (by omega) (by omega) ad (by omega)
        · rw [aI_wA (by omega), sumN_uu (by omega) (by omega)]
          rcases o with o | o <;> omega
      · have ne : ¬ nr (aI h0 266) j = fr (aI h0 266) j := by
          intro q; rw [q] at c3; omega
        have ub : ∀ v, uu_ (aI h 267) (fr (aI h0 266) j) v (nr (aI h0 266) j) = aI h 267 (nr (aI h0 266) j) := fun v => uu_ne ⟨by omega, by omega⟩ ⟨by omega, by omega⟩ ne
        rw [aI_wA (by omega), ub]
        refine ⟨by omega, fun c4 => ?_, fun c4 => absurd (by omega) c4⟩
        refine ih _ _ _ _ _ (F.wA rfl) (by omega) (by omega) (by omega) ?_ (Or.inr ⟨rfl, ?_⟩)
        · rw [aI_wA (by omega)]
          exact I.up (by omega) hg (by omega) (by omega) (adj_sy ad) (by omega)
        · rw [aI_wA (by omega), sumN_uu (by omega) (by omega)]
          rcases o with o | o <;> omega
    · refine ih _ _ _ _ _ F (by omega) (by omega) (by omega) I (o.imp (fun o => ⟨o.1, fun e a b c9 => ?_, o.2.2⟩) id)
      by_cases q : e = j
      · subst q; exact absurd c9 c2
      · exact o.2.1 e a (by omega) c9
theorem q216_37 {X : Cst} {d : Nat} {g : Int} {Q : Post} {h0 : AH} (C0 : Lay h0) (hd : 2 ≤ d) (W : WF 999 (aI h0 266)) (hg : 0 ≤ g ∧ g < aI h0 266 0)
    (k : ∀ h', Fr (fun c _ => c = 267) h0 h' → IV (aI h0 266) (nightP (aI h0 266)) g (aI h' 267) → Stab (aI h0 266) (nightP (aI h0 266)) (aI h' 267) → Q none h') :
    ∀ (n : Nat) (h : AH) (l3 l4 l5 : Option Value), Fr (fun c _ => c = 267) h0 h → IV (aI h0 266) (nightP (aI h0 266)) g (aI h 267) → sumN (aI h0 266 0).toNat (aI h 267) < n →
    Ex X PG (d + 1) 216 37 [some (.ref 256), some (.int (J g)), some (.int (J 1)), l3, l4, l5] [] h Q := by
  have b := W.1
  unfold WFb at b
  intro n
  induction n with
  | zero =>
    intro h l3 l4 l5 F I hs
    have : 0 ≤ sumN (aI h0 266 0).toNat (aI h 267) := sumN_nn (fun k h1 h2 => (I.2 k h1 (by omega)).1.1)
    omega
  | succ n ih =>
    intro h l3 l4 l5 F I hs
    refine r216_37 (F.C C0) ⟨by omega, fun c => absurd c (by decide), fun _ => ?_⟩
    refine q216_45 C0 hd W hg (sumN (aI h0 266 0).toNat (aI h 267)) ?_ ?_ (aI h0 266 1).toNat 0 0 h l4 l5 F (by omega) (by omega) (by omega) I (Or.inl ⟨rfl, fun e h1 h2 => by omega, Int.le_refl _⟩)
    · intro h' l3 l4 l5 F' I' S'
      exact r216_37 (F'.C C0) ⟨by decide, fun _ => k h' F' I' S', fun c => absurd rfl c⟩
    · intro h' l3 l4 l5 F' I' s'
      exact ih h' l3 l4 l5 F' I' (by omega)
theorem m216 {X : Cst} {d : Nat} {g : Int} {h : AH} {Q : Post} (C : Lay h) (hd : 3 ≤ d) (W : WF 999 (aI h 266)) (hg : 0 ≤ g ∧ g < aI h 266 0)
    (k : ∀ h', SH h h' → (Fr (fun c _ => c = 267) h h' ∧ ∀ r, 0 ≤ r → r < aI h 266 0 → aI h' 267 r = lft (aI h 266) (nightP (aI h 266)) r g) → Q none h') : Ex X PG d 216 0 [some (.ref 256), some (.int (J g)), none, none, none, none] [] h Q := by
  obtain ⟨d, rfl⟩ : ∃ e, d = e + 1 := ⟨d - 1, by omega⟩
  have b := W.1
  unfold WFb at b
  refine r216_0 C ?_
  refine q216_2 C W hg ?_ (aI h 266 0).toNat 0 h none none none Fr.rf (by omega) (by omega) (by omega) (fun r h1 h2 => by omega)
  intro h1 l3 l4 l5 F1 e1
  refine q216_37 C (by omega) W hg ?_ (sumN (aI h 266 0).toNat (aI h1 267) + 1).toNat h1 l3 l4 l5 F1 ⟨?_, ?_⟩ ?_
  · intro h2 F2 I2 S2
    refine k h2 F2.1 ⟨F2, fun r a c => (lv_eq ⟨(I2.2 r a c).1, (I2.2 r a c).2, fun n w => S2.le I2.1 n r w⟩).symm⟩
  · rw [e1 g hg.1 hg.2, if_pos rfl]
  · intro r a c
    rw [e1 r a c]
    by_cases q : r = g
    · rw [if_pos q]; exact ⟨by decide, fun _ => q⟩
    · rw [if_neg q]; exact ⟨by decide, fun c => absurd c (by decide)⟩
  · have : 0 ≤ sumN (aI h 266 0).toNat (aI h1 267) := sumN_nn (fun k a c => by rw [e1 k a (by omega)]; split <;> decide)
    omega
