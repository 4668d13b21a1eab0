/-! LEFT and STEP. -/
theorem lv_is (P : Nat → Prop) : IsL P (lv P) := by
  have a : ∀ m : Nat, (∃ v : Nat, v < m ∧ P v ∧ ∀ n, n < v → ¬ P n) ∨ ∀ n, n < m → ¬ P n := by
    intro m
    induction m with
    | zero => exact Or.inr fun n h => absurd h (Nat.not_lt_zero n)
    | succ m ih =>
      rcases ih with ⟨v, h1, h2⟩ | ih
      · exact Or.inl ⟨v, by omega, h2⟩
      · by_cases h : P m
        · exact Or.inl ⟨m, by omega, h, ih⟩
        · refine Or.inr fun n hn => ?_
          by_cases q : n = m
          · subst q; exact h
          · exact ih n (by omega)
  have e : ∃ v, IsL P v := by
    rcases a 99 with ⟨v, h1, h2, h3⟩ | h
    · refine ⟨v, by omega, fun _ => ?_, fun n hn => ?_⟩
      · rw [Int.toNat_natCast]; exact h2
      · by_cases q : n < v
        · exact absurd hn (h3 n q)
        · omega
    · refine ⟨99, by omega, fun h => absurd h (by decide), fun n hn => ?_⟩
      by_cases q : n < 99
      · exact absurd hn (h n q)
      · omega
  unfold lv
  rw [dif_pos e]
  exact Classical.choose_spec e
theorem lft_rg (S : Int → Int) (t : Prop) (a b : Int) : -2147483648 ≤ lft S t a b ∧ lft S t a b < 2147483648 := by
  have := (lv_is fun n => wk (adj S t) n a b).1
  unfold lft; omega
theorem lft_b (S : Int → Int) (t : Prop) (a b : Int) : 0 ≤ lft S t a b ∧ lft S t a b ≤ 99 := (lv_is fun n => wk (adj S t) n a b).1
theorem lft_w {S : Int → Int} {t : Prop} {a b : Int} (h : lft S t a b < 99) : wk (adj S t) (lft S t a b).toNat a b := (lv_is fun n => wk (adj S t) n a b).2.1 h
theorem lft_le {S : Int → Int} {t : Prop} {a b : Int} {n : Nat} (h : wk (adj S t) n a b) : lft S t a b ≤ n := (lv_is fun n => wk (adj S t) n a b).2.2 n h
theorem lft_0 {S : Int → Int} {t : Prop} {a b : Int} : lft S t a b = 0 ↔ a = b := by
  constructor
  · intro h
    have := lft_w (S := S) (t := t) (a := a) (b := b) (by omega)
    rw [h] at this
    exact this
  · intro h
    have := lft_le (S := S) (t := t) (a := a) (b := b) (n := 0) h
    have := lft_b S t a b
    omega
theorem lft_tri {S : Int → Int} {t : Prop} {a c b : Int} (h : adj S t a c) : lft S t a b ≤ lft S t c b + 1 := by
  have x := lft_b S t a b
  have y := lft_b S t c b
  by_cases q : lft S t c b < 99
  · have := lft_le (n := (lft S t c b).toNat + 1) (show wk (adj S t) _ a b from ⟨c, h, lft_w q⟩)
    omega
  · omega
theorem lft_nx {S : Int → Int} {t : Prop} {a b : Int} (h : lft S t a b < 99) (h0 : ¬ lft S t a b = 0) : ∃ c, adj S t a c ∧ lft S t c b + 1 = lft S t a b := by
  have w := lft_w h
  have x := lft_b S t a b
  obtain ⟨m, e⟩ : ∃ m, (lft S t a b).toNat = m + 1 := ⟨(lft S t a b).toNat - 1, by omega⟩
  rw [e] at w
  obtain ⟨c, h1, h2⟩ := w
  have := lft_le h2
  have := lft_tri (b := b) h1
  exact ⟨c, h1, by omega⟩
/-- the least with P, or -1 -/
noncomputable def lst (P : Int → Prop) : Int := @dite Int (∃ v, 0 ≤ v ∧ P v ∧ ∀ u, 0 ≤ u → P u → v ≤ u) (Classical.propDecidable _) (fun h => Classical.choose h) (fun _ => -1)
theorem lst_eq {P : Int → Prop} {v : Int} (h0 : 0 ≤ v) (h1 : P v) (h2 : ∀ u, 0 ≤ u → P u → v ≤ u) : lst P = v := by
  have e : ∃ v, 0 ≤ v ∧ P v ∧ ∀ u, 0 ≤ u → P u → v ≤ u := ⟨v, h0, h1, h2⟩
  unfold lst
  rw [dif_pos e]
  obtain ⟨a, b, c⟩ := Classical.choose_spec e
  have := c v h0 h1
  have := h2 _ a b
  omega
theorem lst_no {P : Int → Prop} (h : ∀ u, 0 ≤ u → ¬ P u) : lst P = -1 := by
  unfold lst
  exact dif_neg fun ⟨v, a, b, _⟩ => h v a b
theorem lst_cong {P R : Int → Prop} (h : ∀ u, 0 ≤ u → (P u ↔ R u)) : lst P = lst R := by
  by_cases e : ∃ v, 0 ≤ v ∧ P v ∧ ∀ u, 0 ≤ u → P u → v ≤ u
  · obtain ⟨v, a, b, c⟩ := e
    rw [lst_eq a b c, lst_eq a ((h v a).mp b) (fun u h0 h1 => c u h0 ((h u h0).mpr h1))]
  · have : ¬ ∃ v, 0 ≤ v ∧ R v ∧ ∀ u, 0 ≤ u → R u → v ≤ u := fun ⟨v, a, b, c⟩ => e ⟨v, a, (h v a).mpr b, fun u h0 h1 => c u h0 ((h u h0).mp h1)⟩
    unfold lst
    rw [dif_neg e, dif_neg this]
def stpP (S : Int → Int) (t : Prop) (a g r : Int) : Prop := adj S t a r ∧ lft S t r g + 1 = lft S t a g ∧ lft S t a g < 99
noncomputable def stp (S : Int → Int) (t : Prop) (a g : Int) : Int := lst (stpP S t a g)
theorem stp_b {N : Int} {S : Int → Int} (W : WF N S) (t : Prop) (a g : Int) : stp S t a g = -1 ∨ (0 ≤ stp S t a g ∧ stp S t a g < S 0 ∧ adj S t a (stp S t a g)) := by
  by_cases e : ∃ v, 0 ≤ v ∧ stpP S t a g v ∧ ∀ u, 0 ≤ u → stpP S t a g u → v ≤ u
  · obtain ⟨v, x, y, z⟩ := e
    have q : stp S t a g = v := lst_eq x y z
    rw [q]
    exact Or.inr ⟨x, (adj_in W y.1).2.2, y.1⟩
  · refine Or.inl ?_
    show lst _ = _
    unfold lst
    exact dif_neg e
-- OutwardDoorsModel.leftFrom(II)I at 0
set_option maxRecDepth 20000 in
set_option maxHeartbeats 4000000 in
theorem r215_0 {X : Cst} {d : Nat} {x1 : Int} {x2 : Int} {h : AH} {Q : Post} (C_h : Lay h) (hd : 3 ≤ d)
  (w : (WF 999 (aI h 266)) ∧ (0 ≤ x2 ∧ x2 < aI h 266 0) ∧ (∀ h2, SH h h2 → (Fr (fun c _ => c = 267) h h2 ∧ ∀ r, 0 ≤ r → r < aI h 266 0 → aI h2 267 r = lft (aI h 266) (nightP (aI h 266)) r x2) → (0 ≤ x1 ∧ x1 < 8) ∧ Q (some (.int (J (aI h2 267 x1)))) h2)) :
    Ex X PG (d + 1) 215 0 [some (.ref 256), some (.int (J x1)), some (.int (J x2))] [] h Q := by
  refine wpx_ok (cut := []) 8 d 215 0 _ _ _ _ ?_
  show hs h 256 = (0, 11) ∧ Ex X PG d 216 0 [some (.ref 256), some (.int (J x2)), none, none, none, none] [] h (fun v1 h2 => v1 = none ∧ hs h2 256 = (0, 11) ∧ ∃ q5, hR h2 256 23 = some q5 ∧ (hs h2 q5).1 = 1 ∧ ix (J x1) (hs h2 q5).2 ∧ Q (some (.int (hI h2 q5 (Int32.toNatClampNeg (J x1))))) h2)
  try simp only [aI_wAL, fI_wAL, aL_wA, aL_wF, aI_wA_ne, aI_wF_ne, fI_wA_ne, fI_wF_ne, fI_wF_nk, aL_wAL_ne, J_sameA, J_sameF, aL_same, Nat.add_left_cancel_iff, Nat.add_eq_left, Nat.left_eq_add, not_false_eq_true, Nat.reduceEqDiff, Nat.reduceAdd, J_add, J_sub, J_mul, J_neg, J_and, J_or, J_xor, J_shl, J_shr, J_div, J_i2b, J_i2l, J_l2i, J_lcm, J_max, J_min, J_nab, J_nao, rdA, rdF, rdL, wA_fold, wF_fold, wL_fold, wC_fold]
  refine ⟨(ls256 C_h), ?_⟩
  obtain ⟨k3, w⟩ := w
  obtain ⟨k4, w⟩ := w
  refine m216 (h := h) (g := x2) C_h (by omega) k3 k4 ?_
  intro h2 s7 p8
  replace w := w h2 s7 p8
  refine ⟨rfl, ?_⟩
  have C_h2 := Lay_SH s7 C_h
  try simp only [aI_wAL, fI_wAL, aL_wA, aL_wF, aI_wA_ne, aI_wF_ne, fI_wA_ne, fI_wF_ne, fI_wF_nk, aL_wAL_ne, J_sameA, J_sameF, aL_same, Nat.add_left_cancel_iff, Nat.add_eq_left, Nat.left_eq_add, not_false_eq_true, Nat.reduceEqDiff, Nat.reduceAdd, J_add, J_sub, J_mul, J_neg, J_and, J_or, J_xor, J_shl, J_shr, J_div, J_i2b, J_i2l, J_l2i, J_lcm, J_max, J_min, J_nab, J_nao, rdA, rdF, rdL, wA_fold, wF_fold, wL_fold, wC_fold]
  refine ⟨(ls256 C_h2), _, (lr256_23 C_h2), ?_⟩
  obtain ⟨k6, w⟩ := w
  refine ⟨congrArg Prod.fst (ls267 C_h2), ixs (ls267 C_h2) k6 (by decide), ?_⟩
  exact w
theorem m215 {X : Cst} {d : Nat} {r g : Int} {h : AH} {Q : Post} (C : Lay h) (hd : 4 ≤ d) (W : WF 999 (aI h 266)) (hr : 0 ≤ r ∧ r < aI h 266 0) (hg : 0 ≤ g ∧ g < aI h 266 0)
    (k : ∀ h', SH h h' → (Fr (fun c _ => c = 267) h h' ∧ ∀ r, 0 ≤ r → r < aI h 266 0 → aI h' 267 r = lft (aI h 266) (nightP (aI h 266)) r g) → Q (some (.int (J (lft (aI h 266) (nightP (aI h 266)) r g)))) h') : Ex X PG d 215 0 [some (.ref 256), some (.int (J r)), some (.int (J g))] [] h Q := by
  obtain ⟨d, rfl⟩ : ∃ e, d = e + 1 := ⟨d - 1, by omega⟩
  have b := W.1
  unfold WFb at b
  refine r215_0 C (by omega) ⟨W, hg, fun h2 s p => ⟨by omega, ?_⟩⟩
  rw [p.2 r hr.1 hr.2]
  exact k h2 s p
-- OutwardDoorsModel.leftOf(I)I at 0
set_option maxRecDepth 20000 in
set_option maxHeartbeats 4000000 in
theorem r214_0 {X : Cst} {d : Nat} {x1 : Int} {h : AH} {Q : Post} (C_h : Lay h) (hd : 4 ≤ d)
  (w : (0 ≤ 10 + 6 * x1 + 0 ∧ 10 + 6 * x1 + 0 < 123) ∧ (0 ≤ 10 + 6 * x1 + 1 ∧ 10 + 6 * x1 + 1 < 123) ∧ (WF 999 (aI h 266)) ∧ (0 ≤ (pS (aI h 266) x1 0) ∧ (pS (aI h 266) x1 0) < aI h 266 0) ∧ (0 ≤ (pS (aI h 266) x1 1) ∧ (pS (aI h 266) x1 1) < aI h 266 0) ∧ (∀ h10, SH h h10 → (Fr (fun c _ => c = 267) h h10 ∧ ∀ r, 0 ≤ r → r < aI h 266 0 → aI h10 267 r = lft (aI h 266) (nightP (aI h 266)) r (pS (aI h 266) x1 1)) → Q (some (.int (J (lft (aI h 266) (nightP (aI h 266)) (pS (aI h 266) x1 0) (pS (aI h 266) x1 1))))) h10)) :
    Ex X PG (d + 1) 214 0 [some (.ref 256), some (.int (J x1))] [] h Q := by
  refine wpx_ok (cut := []) 11 d 214 0 _ _ _ _ ?_
  show hs h 256 = (0, 11) ∧ Ex X PG d 209 0 [some (.ref 256), some (.int (J x1)), some (.int (J 0))] [] h (fun v1 h2 => ∃ r3, v1 = some (.int r3) ∧ hs h2 256 = (0, 11) ∧ Ex X PG d 209 0 [some (.ref 256), some (.int (J x1)), some (.int (J 1))] [] h2 (fun v5 h6 => ∃ r7, v5 = some (.int r7) ∧ hs h6 256 = (0, 11) ∧ Ex X PG d 215 0 [some (.ref 256), some (.int r3), some (.int r7)] [] h6 (fun v9 h10 => ∃ r11, v9 = some (.int r11) ∧ Q (some (.int r11)) h10)))
  try simp only [aI_wAL, fI_wAL, aL_wA, aL_wF, aI_wA_ne, aI_wF_ne, fI_wA_ne, fI_wF_ne, fI_wF_nk, aL_wAL_ne, J_sameA, J_sameF, aL_same, Nat.add_left_cancel_iff, Nat.add_eq_left, Nat.left_eq_add, not_false_eq_true, Nat.reduceEqDiff, Nat.reduceAdd, J_add, J_sub, J_mul, J_neg, J_and, J_or, J_xor, J_shl, J_shr, J_div, J_i2b, J_i2l, J_l2i, J_lcm, J_max, J_min, J_nab, J_nao, rdA, rdF, rdL, wA_fold, wF_fold, wL_fold, wC_fold]
  refine ⟨(ls256 C_h), ?_⟩
  obtain ⟨k4, w⟩ := w
  refine m209 (h := h) (p := x1) (w := 0) C_h (by omega) k4 ?_
  refine ⟨_, rfl, ?_⟩
  try simp only [aI_wAL, fI_wAL, aL_wA, aL_wF, aI_wA_ne, aI_wF_ne, fI_wA_ne, fI_wF_ne, fI_wF_nk, aL_wAL_ne, J_sameA, J_sameF, aL_same, Nat.add_left_cancel_iff, Nat.add_eq_left, Nat.left_eq_add, not_false_eq_true, Nat.reduceEqDiff, Nat.reduceAdd, J_add, J_sub, J_mul, J_neg, J_and, J_or, J_xor, J_shl, J_shr, J_div, J_i2b, J_i2l, J_l2i, J_lcm, J_max, J_min, J_nab, J_nao, rdA, rdF, rdL, wA_fold, wF_fold, wL_fold, wC_fold]
  refine ⟨(ls256 C_h), ?_⟩
  obtain ⟨k8, w⟩ := w
  refine m209 (h := h) (p := x1) (w := 1) C_h (by omega) k8 ?_
  refine ⟨_, rfl, ?_⟩
  try simp only [aI_wAL, fI_wAL, aL_wA, aL_wF, aI_wA_ne, aI_wF_ne, fI_wA_ne, fI_wF_ne, fI_wF_nk, aL_wAL_ne, J_sameA, J_sameF, aL_same, Nat.add_left_cancel_iff, Nat.add_eq_left, Nat.left_eq_add, not_false_eq_true, Nat.reduceEqDiff, Nat.reduceAdd, J_add, J_sub, J_mul, J_neg, J_and, J_or, J_xor, J_shl, J_shr, J_div, J_i2b, J_i2l, J_l2i, J_lcm, J_max, J_min, J_nab, J_nao, rdA, rdF, rdL, wA_fold, wF_fold, wL_fold, wC_fold]
  refine ⟨(ls256 C_h), ?_⟩
  obtain ⟨k12, w⟩ := w
  obtain ⟨k13, w⟩ := w
  obtain ⟨k14, w⟩ := w
  refine m215 (h := h) (r := (pS (aI h 266) x1 0)) (g := (pS (aI h 266) x1 1)) C_h (by omega) k12 k13 k14 ?_
  intro h10 s15 p16
  replace w := w h10 s15 p16
  refine ⟨_, rfl, ?_⟩
  have C_h10 := Lay_SH s15 C_h
  try simp only [aI_wAL, fI_wAL, aL_wA, aL_wF, aI_wA_ne, aI_wF_ne, fI_wA_ne, fI_wF_ne, fI_wF_nk, aL_wAL_ne, J_sameA, J_sameF, aL_same, Nat.add_left_cancel_iff, Nat.add_eq_left, Nat.left_eq_add, not_false_eq_true, Nat.reduceEqDiff, Nat.reduceAdd, J_add, J_sub, J_mul, J_neg, J_and, J_or, J_xor, J_shl, J_shr, J_div, J_i2b, J_i2l, J_l2i, J_lcm, J_max, J_min, J_nab, J_nao, rdA, rdF, rdL, wA_fold, wF_fold, wL_fold, wC_fold]
  exact w
theorem m214 {X : Cst} {d : Nat} {p : Int} {h : AH} {Q : Post} (C : Lay h) (hd : 5 ≤ d) (W : WF 999 (aI h 266)) (hp : 0 ≤ p ∧ p < aI h 266 2)
    (k : ∀ h', SH h h' → (Fr (fun c _ => c = 267) h h' ∧ ∀ r, 0 ≤ r → r < aI h 266 0 → aI h' 267 r = lft (aI h 266) (nightP (aI h 266)) r (pS (aI h 266) p 1)) → Q (some (.int (J (lft (aI h 266) (nightP (aI h 266)) (pS (aI h 266) p 0) (pS (aI h 266) p 1))))) h') : Ex X PG d 214 0 [some (.ref 256), some (.int (J p))] [] h Q := by
  obtain ⟨d, rfl⟩ : ∃ e, d = e + 1 := ⟨d - 1, by omega⟩
  have b := W.1
  unfold WFb at b
  have pp := W.2.1 p hp.1 hp.2
  exact r214_0 C (by omega) ⟨by omega, by omega, W, by omega, by omega, k⟩
-- OutwardDoorsModel.stepOf(I)I at 0
set_option maxRecDepth 20000 in
set_option maxHeartbeats 4000000 in
theorem r221_0 {X : Cst} {d : Nat} {x1 : Int} {h : AH} {Q : Post} (C_h : Lay h) (hd : 5 ≤ d)
  (w : (0 ≤ 10 + 6 * x1 + 0 ∧ 10 + 6 * x1 + 0 < 123) ∧ (WF 999 (aI h 266)) ∧ (0 ≤ x1 ∧ x1 < aI h 266 2) ∧ (∀ h6, SH h h6 → (Fr (fun c _ => c = 267) h h6 ∧ ∀ r, 0 ≤ r → r < aI h 266 0 → aI h6 267 r = lft (aI h 266) (nightP (aI h 266)) r (pS (aI h 266) x1 1)) → ((lft (aI h 266) (nightP (aI h 266)) (pS (aI h 266) x1 0) (pS (aI h 266) x1 1) = 0 → Q (some (.int (J (-1)))) h6) ∧ (¬ lft (aI h 266) (nightP (aI h 266)) (pS (aI h 266) x1 0) (pS (aI h 266) x1 1) = 0 → ((¬ lft (aI h 266) (nightP (aI h 266)) (pS (aI h 266) x1 0) (pS (aI h 266) x1 1) = 99 → Ex X PG (d + 1) 221 31 [some (.ref 256), some (.int (J x1)), some (.int (J (pS (aI h 266) x1 0))), some (.int (J (lft (aI h 266) (nightP (aI h 266)) (pS (aI h 266) x1 0) (pS (aI h 266) x1 1)))), some (.int (J (-1))), some (.int (J 0)), none] [] h6 Q) ∧ (lft (aI h 266) (nightP (aI h 266)) (pS (aI h 266) x1 0) (pS (aI h 266) x1 1) = 99 → Q (some (.int (J (-1)))) h6)))))) :
    Ex X PG (d + 1) 221 0 [some (.ref 256), some (.int (J x1)), none, none, none, none, none] [] h Q := by
  refine wpx_ok (cut := [31]) 18 d 221 0 _ _ _ _ ?_
  show hs h 256 = (0, 11) ∧ Ex X PG d 209 0 [some (.ref 256), some (.int (J x1)), some (.int (J 0))] [] h (fun v1 h2 => ∃ r3, v1 = some (.int r3) ∧ hs h2 256 = (0, 11) ∧ Ex X PG d 214 0 [some (.ref 256), some (.int (J x1))] [] h2 (fun v5 h6 => ∃ r7, v5 = some (.int r7) ∧ ((r7 = (J 0) → Q (some (.int (J (-1)))) h6) ∧ (¬ (r7 = (J 0)) → ((¬ r7 = (J 99) → Ex X PG (d + 1) 221 31 [some (.ref 256), some (.int (J x1)), some (.int r3), some (.int r7), some (.int (J (-1))), some (.int (J 0)), none] [] h6 Q) ∧ (¬ (¬ r7 = (J 99)) → Q (some (.int (J (-1)))) h6))))))
  try simp only [aI_wAL, fI_wAL, aL_wA, aL_wF, aI_wA_ne, aI_wF_ne, fI_wA_ne, fI_wF_ne, fI_wF_nk, aL_wAL_ne, J_sameA, J_sameF, aL_same, Nat.add_left_cancel_iff, Nat.add_eq_left, Nat.left_eq_add, not_false_eq_true, Nat.reduceEqDiff, Nat.reduceAdd, J_add, J_sub, J_mul, J_neg, J_and, J_or, J_xor, J_shl, J_shr, J_div, J_i2b, J_i2l, J_l2i, J_lcm, J_max, J_min, J_nab, J_nao, rdA, rdF, rdL, wA_fold, wF_fold, wL_fold, wC_fold]
  refine ⟨(ls256 C_h), ?_⟩
  obtain ⟨k4, w⟩ := w
  refine m209 (h := h) (p := x1) (w := 0) C_h (by omega) k4 ?_
  refine ⟨_, rfl, ?_⟩
  try simp only [aI_wAL, fI_wAL, aL_wA, aL_wF, aI_wA_ne, aI_wF_ne, fI_wA_ne, fI_wF_ne, fI_wF_nk, aL_wAL_ne, J_sameA, J_sameF, aL_same, Nat.add_left_cancel_iff, Nat.add_eq_left, Nat.left_eq_add, not_false_eq_true, Nat.reduceEqDiff, Nat.reduceAdd, J_add, J_sub, J_mul, J_neg, J_and, J_or, J_xor, J_shl, J_shr, J_div, J_i2b, J_i2l, J_l2i, J_lcm, J_max, J_min, J_nab, J_nao, rdA, rdF, rdL, wA_fold, wF_fold, wL_fold, wC_fold]
  refine ⟨(ls256 C_h), ?_⟩
  obtain ⟨k8, w⟩ := w
  obtain ⟨k9, w⟩ := w
  refine m214 (h := h) (p := x1) C_h (by omega) k8 k9 ?_
  intro h6 s14 p15
  replace w := w h6 s14 p15
  refine ⟨_, rfl, ?_⟩
  have C_h6 := Lay_SH s14 C_h
  try simp only [aI_wAL, fI_wAL, aL_wA, aL_wF, aI_wA_ne, aI_wF_ne, fI_wA_ne, fI_wF_ne, fI_wF_nk, aL_wAL_ne, J_sameA, J_sameF, aL_same, Nat.add_left_cancel_iff, Nat.add_eq_left, Nat.left_eq_add, not_false_eq_true, Nat.reduceEqDiff, Nat.reduceAdd, J_add, J_sub, J_mul, J_neg, J_and, J_or, J_xor, J_shl, J_shr, J_div, J_i2b, J_i2l, J_l2i, J_lcm, J_max, J_min, J_nab, J_nao, rdA, rdF, rdL, wA_fold, wF_fold, wL_fold, wC_fold]
  refine ⟨fun c10 => ?_, fun c10 => ?_⟩
  · have t11 : lft (aI h 266) (nightP (aI h 266)) (pS (aI h 266) x1 0) (pS (aI h 266) x1 1) = 0 := ((Jeq (lft_rg _ _ _ _) (by decide)).mp c10)
    replace w := w.1 t11
    exact w
  · have t11 : ¬ lft (aI h 266) (nightP (aI h 266)) (pS (aI h 266) x1 0) (pS (aI h 266) x1 1) = 0 := (fun e => c10 ((Jeq (lft_rg _ _ _ _) (by decide)).mpr e))
    replace w := w.2 t11
    refine ⟨fun c12 => ?_, fun c12 => ?_⟩
    · have t13 : ¬ lft (aI h 266) (nightP (aI h 266)) (pS (aI h 266) x1 0) (pS (aI h 266) x1 1) = 99 := (fun e => c12 ((Jeq (lft_rg _ _ _ _) (by decide)).mpr e))
      replace w := w.1 t13
      exact w
    · have t13 : lft (aI h 266) (nightP (aI h 266)) (pS (aI h 266) x1 0) (pS (aI h 266) x1 1) = 99 := ((Jeq (lft_rg _ _ _ _) (by decide)).mp (Classical.byContradiction c12))
      replace w := w.2 t13
      exact w
-- OutwardDoorsModel.stepOf(I)I at 31
set_option maxRecDepth 20000 in
set_option maxHeartbeats 4000000 in
theorem r221_31 {X : Cst} {d : Nat} {x1 : Int} {x2 : Int} {x3 : Int} {x4 : Int} {x5 : Int} {l6 : Option Value} {h : AH} {Q : Post} (C_h : Lay h) (hd : 2 ≤ d)
  (w : (-2147483648 ≤ x5 ∧ x5 < 2147483648) ∧ ((aI h 266 1 ≤ x5 → Q (some (.int (J x4))) h) ∧ (¬ aI h 266 1 ≤ x5 → (WF 999 (aI h 266)) ∧ (0 ≤ x5 ∧ x5 < aI h 266 1) ∧ ((¬ (opn (aI h 266) (nightP (aI h 266)) x5) → Ex X PG (d + 1) 221 31 [some (.ref 256), some (.int (J x1)), some (.int (J x2)), some (.int (J x3)), some (.int (J x4)), some (.int (J (x5 + 1))), l6] [] h Q) ∧ ((opn (aI h 266) (nightP (aI h 266)) x5) → (0 ≤ x5 ∧ x5 < 14) ∧ (-2147483648 ≤ x2 ∧ x2 < 2147483648) ∧ ((nr (aI h 266) x5 = x2 → (0 ≤ fr (aI h 266) x5 ∧ fr (aI h 266) x5 < 8) ∧ (-2147483648 ≤ x3 - 1 ∧ x3 - 1 < 2147483648) ∧ ((¬ aI h 267 (fr (aI h 266) x5) = x3 - 1 → Ex X PG (d + 1) 221 31 [some (.ref 256), some (.int (J x1)), some (.int (J x2)), some (.int (J x3)), some (.int (J x4)), some (.int (J (x5 + 1))), some (.int (J (fr (aI h 266) x5)))] [] h Q) ∧ (aI h 267 (fr (aI h 266) x5) = x3 - 1 → (-2147483648 ≤ x4 ∧ x4 < 2147483648) ∧ ((x4 < 0 → Ex X PG (d + 1) 221 31 [some (.ref 256), some (.int (J x1)), some (.int (J x2)), some (.int (J x3)), some (.int (J (fr (aI h 266) x5))), some (.int (J (x5 + 1))), some (.int (J (fr (aI h 266) x5)))] [] h Q) ∧ (¬ x4 < 0 → ((x4 ≤ fr (aI h 266) x5 → Ex X PG (d + 1) 221 31 [some (.ref 256), some (.int (J x1)), some (.int (J x2)), some (.int (J x3)), some (.int (J x4)), some (.int (J (x5 + 1))), some (.int (J (fr (aI h 266) x5)))] [] h Q) ∧ (¬ x4 ≤ fr (aI h 266) x5 → Ex X PG (d + 1) 221 31 [some (.ref 256), some (.int (J x1)), some (.int (J x2)), some (.int (J x3)), some (.int (J (fr (aI h 266) x5))), some (.int (J (x5 + 1))), some (.int (J (fr (aI h 266) x5)))] [] h Q))))))) ∧ (¬ nr (aI h 266) x5 = x2 → ((fr (aI h 266) x5 = x2 → (0 ≤ nr (aI h 266) x5 ∧ nr (aI h 266) x5 < 8) ∧ (-2147483648 ≤ x3 - 1 ∧ x3 - 1 < 2147483648) ∧ ((¬ aI h 267 (nr (aI h 266) x5) = x3 - 1 → Ex X PG (d + 1) 221 31 [some (.ref 256), some (.int (J x1)), some (.int (J x2)), some (.int (J x3)), some (.int (J x4)), some (.int (J (x5 + 1))), some (.int (J (nr (aI h 266) x5)))] [] h Q) ∧ (aI h 267 (nr (aI h 266) x5) = x3 - 1 → (-2147483648 ≤ x4 ∧ x4 < 2147483648) ∧ ((x4 < 0 → Ex X PG (d + 1) 221 31 [some (.ref 256), some (.int (J x1)), some (.int (J x2)), some (.int (J x3)), some (.int (J (nr (aI h 266) x5))), some (.int (J (x5 + 1))), some (.int (J (nr (aI h 266) x5)))] [] h Q) ∧ (¬ x4 < 0 → ((x4 ≤ nr (aI h 266) x5 → Ex X PG (d + 1) 221 31 [some (.ref 256), some (.int (J x1)), some (.int (J x2)), some (.int (J x3)), some (.int (J x4)), some (.int (J (x5 + 1))), some (.int (J (nr (aI h 266) x5)))] [] h Q) ∧ (¬ x4 ≤ nr (aI h 266) x5 → Ex X PG (d + 1) 221 31 [some (.ref 256), some (.int (J x1)), some (.int (J x2)), some (.int (J x3)), some (.int (J (nr (aI h 266) x5))), some (.int (J (x5 + 1))), some (.int (J (nr (aI h 266) x5)))] [] h Q))))))) ∧ (¬ fr (aI h 266) x5 = x2 → Ex X PG (d + 1) 221 31 [some (.ref 256), some (.int (J x1)), some (.int (J x2)), some (.int (J x3)), some (.int (J x4)), some (.int (J (x5 + 1))), l6] [] h Q))))))))) :
    Ex X PG (d + 1) 221 31 [some (.ref 256), some (.int (J x1)), some (.int (J x2)), some (.int (J x3)), some (.int (J x4)), some (.int (J x5)), l6] [] h Q := by
  refine wpx_ok (cut := [31]) 47 d 221 31 _ _ _ _ ?_
  show hs h 256 = (0, 11) ∧ ∃ q1, hR h 256 20 = some q1 ∧ (hs h q1).1 = 1 ∧ ix (J 1) (hs h q1).2 ∧ (((hI h q1 (Int32.toNatClampNeg (J 1))) ≤ (J x5) → Q (some (.int (J x4))) h) ∧ (¬ ((hI h q1 (Int32.toNatClampNeg (J 1))) ≤ (J x5)) → hs h 256 = (0, 11) ∧ Ex X PG d 217 0 [some (.ref 256), some (.int (J x5))] [] h (fun v5 h6 => ∃ r7, v5 = some (.int r7) ∧ ((r7 = (J 0) → Ex X PG (d + 1) 221 31 [some (.ref 256), some (.int (J x1)), some (.int (J x2)), some (.int (J x3)), some (.int (J x4)), some (.int ((J x5) + (J 1))), l6] [] h6 Q) ∧ (¬ (r7 = (J 0)) → hs h6 256 = (0, 11) ∧ Ex X PG d 218 0 [some (.ref 256), some (.int (J x5))] [] h6 (fun v12 h13 => ∃ r14, v12 = some (.int r14) ∧ ((r14 = (J x2) → hs h13 256 = (0, 11) ∧ Ex X PG d 218 0 [some (.ref 256), some (.int (J x5))] [] h13 (fun v19 h20 => ∃ r21, v19 = some (.int r21) ∧ ((¬ r21 = (J x2) → hs h20 256 = (0, 11) ∧ Ex X PG d 218 0 [some (.ref 256), some (.int (J x5))] [] h20 (fun v24 h25 => ∃ r26, v24 = some (.int r26) ∧ hs h25 256 = (0, 11) ∧ ∃ q27, hR h25 256 23 = some q27 ∧ (hs h25 q27).1 = 1 ∧ ix r26 (hs h25 q27).2 ∧ ((¬ (hI h25 q27 (Int32.toNatClampNeg r26)) = ((J x3) - (J 1)) → Ex X PG (d + 1) 221 31 [some (.ref 256), some (.int (J x1)), some (.int (J x2)), some (.int (J x3)), some (.int (J x4)), some (.int ((J x5) + (J 1))), some (.int r26)] [] h25 Q) ∧ (¬ (¬ (hI h25 q27 (Int32.toNatClampNeg r26)) = ((J x3) - (J 1))) → (((J x4) < (J 0) → Ex X PG (d + 1) 221 31 [some (.ref 256), some (.int (J x1)), some (.int (J x2)), some (.int (J x3)), some (.int r26), some (.int ((J x5) + (J 1))), some (.int r26)] [] h25 Q) ∧ (¬ ((J x4) < (J 0)) → (((J x4) ≤ r26 → Ex X PG (d + 1) 221 31 [some (.ref 256), some (.int (J x1)), some (.int (J x2)), some (.int (J x3)), some (.int (J x4)), some (.int ((J x5) + (J 1))), some (.int r26)] [] h25 Q) ∧ (¬ ((J x4) ≤ r26) → Ex X PG (d + 1) 221 31 [some (.ref 256), some (.int (J x1)), some (.int (J x2)), some (.int (J x3)), some (.int r26), some (.int ((J x5) + (J 1))), some (.int r26)] [] h25 Q)))))))) ∧ (¬ (¬ r21 = (J x2)) → hs h20 256 = (0, 11) ∧ Ex X PG d 219 0 [some (.ref 256), some (.int (J x5))] [] h20 (fun v37 h38 => ∃ r39, v37 = some (.int r39) ∧ hs h38 256 = (0, 11) ∧ ∃ q40, hR h38 256 23 = some q40 ∧ (hs h38 q40).1 = 1 ∧ ix r39 (hs h38 q40).2 ∧ ((¬ (hI h38 q40 (Int32.toNatClampNeg r39)) = ((J x3) - (J 1)) → Ex X PG (d + 1) 221 31 [some (.ref 256), some (.int (J x1)), some (.int (J x2)), some (.int (J x3)), some (.int (J x4)), some (.int ((J x5) + (J 1))), some (.int r39)] [] h38 Q) ∧ (¬ (¬ (hI h38 q40 (Int32.toNatClampNeg r39)) = ((J x3) - (J 1))) → (((J x4) < (J 0) → Ex X PG (d + 1) 221 31 [some (.ref 256), some (.int (J x1)), some (.int (J x2)), some (.int (J x3)), some (.int r39), some (.int ((J x5) + (J 1))), some (.int r39)] [] h38 Q) ∧ (¬ ((J x4) < (J 0)) → (((J x4) ≤ r39 → Ex X PG (d + 1) 221 31 [some (.ref 256), some (.int (J x1)), some (.int (J x2)), some (.int (J x3)), some (.int (J x4)), some (.int ((J x5) + (J 1))), some (.int r39)] [] h38 Q) ∧ (¬ ((J x4) ≤ r39) → Ex X PG (d + 1) 221 31 [some (.ref 256), some (.int (J x1)), some (.int (J x2)), some (.int (J x3)), some (.int r39), some (.int ((J x5) + (J 1))), some (.int r39)] [] h38 Q))))))))))) ∧ (¬ (r14 = (J x2)) → hs h13 256 = (0, 11) ∧ Ex X PG d 219 0 [some (.ref 256), some (.int (J x5))] [] h13 (fun v50 h51 => ∃ r52, v50 = some (.int r52) ∧ ((r52 = (J x2) → hs h51 256 = (0, 11) ∧ Ex X PG d 218 0 [some (.ref 256), some (.int (J x5))] [] h51 (fun v55 h56 => ∃ r57, v55 = some (.int r57) ∧ ((¬ r57 = (J x2) → hs h56 256 = (0, 11) ∧ Ex X PG d 218 0 [some (.ref 256), some (.int (J x5))] [] h56 (fun v60 h61 => ∃ r62, v60 = some (.int r62) ∧ hs h61 256 = (0, 11) ∧ ∃ q63, hR h61 256 23 = some q63 ∧ (hs h61 q63).1 = 1 ∧ ix r62 (hs h61 q63).2 ∧ ((¬ (hI h61 q63 (Int32.toNatClampNeg r62)) = ((J x3) - (J 1)) → Ex X PG (d + 1) 221 31 [some (.ref 256), some (.int (J x1)), some (.int (J x2)), some (.int (J x3)), some (.int (J x4)), some (.int ((J x5) + (J 1))), some (.int r62)] [] h61 Q) ∧ (¬ (¬ (hI h61 q63 (Int32.toNatClampNeg r62)) = ((J x3) - (J 1))) → (((J x4) < (J 0) → Ex X PG (d + 1) 221 31 [some (.ref 256), some (.int (J x1)), some (.int (J x2)), some (.int (J x3)), some (.int r62), some (.int ((J x5) + (J 1))), some (.int r62)] [] h61 Q) ∧ (¬ ((J x4) < (J 0)) → (((J x4) ≤ r62 → Ex X PG (d + 1) 221 31 [some (.ref 256), some (.int (J x1)), some (.int (J x2)), some (.int (J x3)), some (.int (J x4)), some (.int ((J x5) + (J 1))), some (.int r62)] [] h61 Q) ∧ (¬ ((J x4) ≤ r62) → Ex X PG (d + 1) 221 31 [some (.ref 256), some (.int (J x1)), some (.int (J x2)), some (.int (J x3)), some (.int r62), some (.int ((J x5) + (J 1))), some (.int r62)] [] h61 Q)))))))) ∧ (¬ (¬ r57 = (J x2)) → hs h56 256 = (0, 11) ∧ Ex X PG d 219 0 [some (.ref 256), some (.int (J x5))] [] h56 (fun v73 h74 => ∃ r75, v73 = some (.int r75) ∧ hs h74 256 = (0, 11) ∧ ∃ q76, hR h74 256 23 = some q76 ∧ (hs h74 q76).1 = 1 ∧ ix r75 (hs h74 q76).2 ∧ ((¬ (hI h74 q76 (Int32.toNatClampNeg r75)) = ((J x3) - (J 1)) → Ex X PG (d + 1) 221 31 [some (.ref 256), some (.int (J x1)), some (.int (J x2)), some (.int (J x3)), some (.int (J x4)), some (.int ((J x5) + (J 1))), some (.int r75)] [] h74 Q) ∧ (¬ (¬ (hI h74 q76 (Int32.toNatClampNeg r75)) = ((J x3) - (J 1))) → (((J x4) < (J 0) → Ex X PG (d + 1) 221 31 [some (.ref 256), some (.int (J x1)), some (.int (J x2)), some (.int (J x3)), some (.int r75), some (.int ((J x5) + (J 1))), some (.int r75)] [] h74 Q) ∧ (¬ ((J x4) < (J 0)) → (((J x4) ≤ r75 → Ex X PG (d + 1) 221 31 [some (.ref 256), some (.int (J x1)), some (.int (J x2)), some (.int (J x3)), some (.int (J x4)), some (.int ((J x5) + (J 1))), some (.int r75)] [] h74 Q) ∧ (¬ ((J x4) ≤ r75) → Ex X PG (d + 1) 221 31 [some (.ref 256), some (.int (J x1)), some (.int (J x2)), some (.int (J x3)), some (.int r75), some (.int ((J x5) + (J 1))), some (.int r75)] [] h74 Q))))))))))) ∧ (¬ (r52 = (J x2)) → Ex X PG (d + 1) 221 31 [some (.ref 256), some (.int (J x1)), some (.int (J x2)), some (.int (J x3)), some (.int (J x4)), some (.int ((J x5) + (J 1))), l6] [] h51 Q)))))))))))
  try simp only [aI_wAL, fI_wAL, aL_wA, aL_wF, aI_wA_ne, aI_wF_ne, fI_wA_ne, fI_wF_ne, fI_wF_nk, aL_wAL_ne, J_sameA, J_sameF, aL_same, Nat.add_left_cancel_iff, Nat.add_eq_left, Nat.left_eq_add, not_false_eq_true, Nat.reduceEqDiff, Nat.reduceAdd, J_add, J_sub, J_mul, J_neg, J_and, J_or, J_xor, J_shl, J_shr, J_div, J_i2b, J_i2l, J_l2i, J_lcm, J_max, J_min, J_nab, J_nao, rdA, rdF, rdL, wA_fold, wF_fold, wL_fold, wC_fold]
  refine ⟨(ls256 C_h), _, (lr256_20 C_h), ?_⟩
  refine ⟨congrArg Prod.fst (ls266 C_h), ixs (ls266 C_h) (by decide) (by decide), ?_⟩
  obtain ⟨k4, w⟩ := w
  refine ⟨fun c2 => ?_, fun c2 => ?_⟩
  · have t3 : aI h 266 1 ≤ x5 := ((Jle (rg_toInt _) k4).mp c2)
    replace w := w.1 t3
    exact w
  · have t3 : ¬ aI h 266 1 ≤ x5 := (fun e => c2 ((Jle (rg_toInt _) k4).mpr e))
    replace w := w.2 t3
    refine ⟨(ls256 C_h), ?_⟩
    obtain ⟨k8, w⟩ := w
    obtain ⟨k9, w⟩ := w
    refine m217 (h := h) (x := x5) C_h (by omega) k8 k9 ?_
    refine ⟨_, rfl, ?_⟩
    try simp only [aI_wAL, fI_wAL, aL_wA, aL_wF, aI_wA_ne, aI_wF_ne, fI_wA_ne, fI_wF_ne, fI_wF_nk, aL_wAL_ne, J_sameA, J_sameF, aL_same, Nat.add_left_cancel_iff, Nat.add_eq_left, Nat.left_eq_add, not_false_eq_true, Nat.reduceEqDiff, Nat.reduceAdd, J_add, J_sub, J_mul, J_neg, J_and, J_or, J_xor, J_shl, J_shr, J_div, J_i2b, J_i2l, J_l2i, J_lcm, J_max, J_min, J_nab, J_nao, rdA, rdF, rdL, wA_fold, wF_fold, wL_fold, wC_fold]
    refine ⟨fun c10 => ?_, fun c10 => ?_⟩
    · have t11 : ¬ (opn (aI h 266) (nightP (aI h 266)) x5) := ((bI0 _).mp c10)
      replace w := w.1 t11
      exact w
    · have t11 : (opn (aI h 266) (nightP (aI h 266)) x5) := (Classical.byContradiction fun n => c10 ((bI0 _).mpr n))
      replace w := w.2 t11
      refine ⟨(ls256 C_h), ?_⟩
      obtain ⟨k15, w⟩ := w
      refine m218 (h := h) (x := x5) C_h (by omega) k15 ?_
      refine ⟨_, rfl, ?_⟩
      try simp only [aI_wAL, fI_wAL, aL_wA, aL_wF, aI_wA_ne, aI_wF_ne, fI_wA_ne, fI_wF_ne, fI_wF_nk, aL_wAL_ne, J_sameA, J_sameF, aL_same, Nat.add_left_cancel_iff, Nat.add_eq_left, Nat.left_eq_add, not_false_eq_true, Nat.reduceEqDiff, Nat.reduceAdd, J_add, J_sub, J_mul, J_neg, J_and, J_or, J_xor, J_shl, J_shr, J_div, J_i2b, J_i2l, J_l2i, J_lcm, J_max, J_min, J_nab, J_nao, rdA, rdF, rdL, wA_fold, wF_fold, wL_fold, wC_fold]
      obtain ⟨k18, w⟩ := w
      refine ⟨fun c16 => ?_, fun c16 => ?_⟩
      · have t17 : nr (aI h 266) x5 = x2 := ((Jeq (aI_rg _ _ _) k18).mp c16)
        replace w := w.1 t17
        refine ⟨(ls256 C_h), ?_⟩
        refine m218 (h := h) (x := x5) C_h (by omega) k15 ?_
        refine ⟨_, rfl, ?_⟩
        try simp only [aI_wAL, fI_wAL, aL_wA, aL_wF, aI_wA_ne, aI_wF_ne, fI_wA_ne, fI_wF_ne, fI_wF_nk, aL_wAL_ne, J_sameA, J_sameF, aL_same, Nat.add_left_cancel_iff, Nat.add_eq_left, Nat.left_eq_add, not_false_eq_true, Nat.reduceEqDiff, Nat.reduceAdd, J_add, J_sub, J_mul, J_neg, J_and, J_or, J_xor, J_shl, J_shr, J_div, J_i2b, J_i2l, J_l2i, J_lcm, J_max, J_min, J_nab, J_nao, rdA, rdF, rdL, wA_fold, wF_fold, wL_fold, wC_fold]
        refine ⟨fun c22 => absurd c22 (fun q => q ((Jeq (aI_rg _ _ _) k18).mpr t17)), fun _ => ?_⟩
        refine ⟨(ls256 C_h), ?_⟩
        refine m219 (h := h) (x := x5) C_h (by omega) k15 ?_
        refine ⟨_, rfl, ?_⟩
        try simp only [aI_wAL, fI_wAL, aL_wA, aL_wF, aI_wA_ne, aI_wF_ne, fI_wA_ne, fI_wF_ne, fI_wF_nk, aL_wAL_ne, J_sameA, J_sameF, aL_same, Nat.add_left_cancel_iff, Nat.add_eq_left, Nat.left_eq_add, not_false_eq_true, Nat.reduceEqDiff, Nat.reduceAdd, J_add, J_sub, J_mul, J_neg, J_and, J_or, J_xor, J_shl, J_shr, J_div, J_i2b, J_i2l, J_l2i, J_lcm, J_max, J_min, J_nab, J_nao, rdA, rdF, rdL, wA_fold, wF_fold, wL_fold, wC_fold]
        refine ⟨(ls256 C_h), _, (lr256_23 C_h), ?_⟩
        obtain ⟨k41, w⟩ := w
        refine ⟨congrArg Prod.fst (ls267 C_h), ixs (ls267 C_h) k41 (by decide), ?_⟩
        obtain ⟨k44, w⟩ := w
        refine ⟨fun c42 => ?_, fun c42 => ?_⟩
        · have t43 : ¬ aI h 267 (fr (aI h 266) x5) = x3 - 1 := (fun e => c42 ((Jeq (rg_toInt _) k44).mpr e))
          replace w := w.1 t43
          exact w
        · have t43 : aI h 267 (fr (aI h 266) x5) = x3 - 1 := ((Jeq (rg_toInt _) k44).mp (Classical.byContradiction c42))
          replace w := w.2 t43
          obtain ⟨k47, w⟩ := w
          refine ⟨fun c45 => ?_, fun c45 => ?_⟩
          · have t46 : x4 < 0 := ((Jlt k47 (by decide)).mp c45)
            replace w := w.1 t46
            exact w
          · have t46 : ¬ x4 < 0 := (fun e => c45 ((Jlt k47 (by decide)).mpr e))
            replace w := w.2 t46
            refine ⟨fun c48 => ?_, fun c48 => ?_⟩
            · have t49 : x4 ≤ fr (aI h 266) x5 := ((Jle k47 (aI_rg _ _ _)).mp c48)
              replace w := w.1 t49
              exact w
            · have t49 : ¬ x4 ≤ fr (aI h 266) x5 := (fun e => c48 ((Jle k47 (aI_rg _ _ _)).mpr e))
              replace w := w.2 t49
              exact w
      · have t17 : ¬ nr (aI h 266) x5 = x2 := (fun e => c16 ((Jeq (aI_rg _ _ _) k18).mpr e))
        replace w := w.2 t17
        refine ⟨(ls256 C_h), ?_⟩
        refine m219 (h := h) (x := x5) C_h (by omega) k15 ?_
        refine ⟨_, rfl, ?_⟩
        try simp only [aI_wAL, fI_wAL, aL_wA, aL_wF, aI_wA_ne, aI_wF_ne, fI_wA_ne, fI_wF_ne, fI_wF_nk, aL_wAL_ne, J_sameA, J_sameF, aL_same, Nat.add_left_cancel_iff, Nat.add_eq_left, Nat.left_eq_add, not_false_eq_true, Nat.reduceEqDiff, Nat.reduceAdd, J_add, J_sub, J_mul, J_neg, J_and, J_or, J_xor, J_shl, J_shr, J_div, J_i2b, J_i2l, J_l2i, J_lcm, J_max, J_min, J_nab, J_nao, rdA, rdF, rdL, wA_fold, wF_fold, wL_fold, wC_fold]
        refine ⟨fun c53 => ?_, fun c53 => ?_⟩
        · have t54 : fr (aI h 266) x5 = x2 := ((Jeq (aI_rg _ _ _) k18).mp c53)
          replace w := w.1 t54
          refine ⟨(ls256 C_h), ?_⟩
          refine m218 (h := h) (x := x5) C_h (by omega) k15 ?_
          refine ⟨_, rfl, ?_⟩
          try simp only [aI_wAL, fI_wAL, aL_wA, aL_wF, aI_wA_ne, aI_wF_ne, fI_wA_ne, fI_wF_ne, fI_wF_nk, aL_wAL_ne, J_sameA, J_sameF, aL_same, Nat.add_left_cancel_iff, Nat.add_eq_left, Nat.left_eq_add, not_false_eq_true, Nat.reduceEqDiff, Nat.reduceAdd, J_add, J_sub, J_mul, J_neg, J_and, J_or, J_xor, J_shl, J_shr, J_div, J_i2b, J_i2l, J_l2i, J_lcm, J_max, J_min, J_nab, J_nao, rdA, rdF, rdL, wA_fold, wF_fold, wL_fold, wC_fold]
          refine ⟨fun _ => ?_, fun c58 => absurd (fun e => t17 ((Jeq (aI_rg _ _ _) k18).mp e)) c58⟩
          refine ⟨(ls256 C_h), ?_⟩
          refine m218 (h := h) (x := x5) C_h (by omega) k15 ?_
          refine ⟨_, rfl, ?_⟩
          try simp only [aI_wAL, fI_wAL, aL_wA, aL_wF, aI_wA_ne, aI_wF_ne, fI_wA_ne, fI_wF_ne, fI_wF_nk, aL_wAL_ne, J_sameA, J_sameF, aL_same, Nat.add_left_cancel_iff, Nat.add_eq_left, Nat.left_eq_add, not_false_eq_true, Nat.reduceEqDiff, Nat.reduceAdd, J_add, J_sub, J_mul, J_neg, J_and, J_or, J_xor, J_shl, J_shr, J_div, J_i2b, J_i2l, J_l2i, J_lcm, J_max, J_min, J_nab, J_nao, rdA, rdF, rdL, wA_fold, wF_fold, wL_fold, wC_fold]
          refine ⟨(ls256 C_h), _, (lr256_23 C_h), ?_⟩
          obtain ⟨k64, w⟩ := w
          refine ⟨congrArg Prod.fst (ls267 C_h), ixs (ls267 C_h) k64 (by decide), ?_⟩
          obtain ⟨k67, w⟩ := w
          refine ⟨fun c65 => ?_, fun c65 => ?_⟩
          · have t66 : ¬ aI h 267 (nr (aI h 266) x5) = x3 - 1 := (fun e => c65 ((Jeq (rg_toInt _) k67).mpr e))
            replace w := w.1 t66
            exact w
          · have t66 : aI h 267 (nr (aI h 266) x5) = x3 - 1 := ((Jeq (rg_toInt _) k67).mp (Classical.byContradiction c65))
            replace w := w.2 t66
            obtain ⟨k70, w⟩ := w
            refine ⟨fun c68 => ?_, fun c68 => ?_⟩
            · have t69 : x4 < 0 := ((Jlt k70 (by decide)).mp c68)
              replace w := w.1 t69
              exact w
            · have t69 : ¬ x4 < 0 := (fun e => c68 ((Jlt k70 (by decide)).mpr e))
              replace w := w.2 t69
              refine ⟨fun c71 => ?_, fun c71 => ?_⟩
              · have t72 : x4 ≤ nr (aI h 266) x5 := ((Jle k70 (aI_rg _ _ _)).mp c71)
                replace w := w.1 t72
                exact w
              · have t72 : ¬ x4 ≤ nr (aI h 266) x5 := (fun e => c71 ((Jle k70 (aI_rg _ _ _)).mpr e))
                replace w := w.2 t72
                exact w
        · have t54 : ¬ fr (aI h 266) x5 = x2 := (fun e => c53 ((Jeq (aI_rg _ _ _) k18).mpr e))
          replace w := w.2 t54
          exact w
/-- the loop over the doors: the least so far -/
theorem q221_31 {X : Cst} {d : Nat} {p a g : Int} {h : AH} {Q : Post} (C : Lay h) (hd : 2 ≤ d) (W : WF 999 (aI h 266)) (ha : 0 ≤ a ∧ a < aI h 266 0)
    (hD : ∀ r, 0 ≤ r → r < aI h 266 0 → aI h 267 r = lft (aI h 266) (nightP (aI h 266)) r g) (h9 : lft (aI h 266) (nightP (aI h 266)) a g < 99)
    (k : Q (some (.int (J (stp (aI h 266) (nightP (aI h 266)) a g)))) h) :
    ∀ (n : Nat) (i b : Int) (l6 : Option Value), aI h 266 1 - i ≤ n → 0 ≤ i → i ≤ aI h 266 1 →
      (b = -1 ∨ 0 ≤ b ∧ stpP (aI h 266) (nightP (aI h 266)) a g b) →
      (∀ e u, 0 ≤ e → e < i → opn (aI h 266) (nightP (aI h 266)) e → (nr (aI h 266) e = a ∧ fr (aI h 266) e = u ∨ nr (aI h 266) e = u ∧ fr (aI h 266) e = a) → lft (aI h 266) (nightP (aI h 266)) u g + 1 = lft (aI h 266) (nightP (aI h 266)) a g → 0 ≤ b ∧ b ≤ u) →
      Ex X PG (d + 1) 221 31 [some (.ref 256), some (.int (J p)), some (.int (J a)), some (.int (J (lft (aI h 266) (nightP (aI h 266)) a g))), some (.int (J b)), some (.int (J i)), l6] [] h Q := by
  have bb := W.1
  unfold WFb at bb
  have fin : ∀ i b, i = aI h 266 1 → (b = -1 ∨ 0 ≤ b ∧ stpP (aI h 266) (nightP (aI h 266)) a g b) →
      (∀ e u, 0 ≤ e → e < i → opn (aI h 266) (nightP (aI h 266)) e → (nr (aI h 266) e = a ∧ fr (aI h 266) e = u ∨ nr (aI h 266) e = u ∧ fr (aI h 266) e = a) → lft (aI h 266) (nightP (aI h 266)) u g + 1 = lft (aI h 266) (nightP (aI h 266)) a g → 0 ≤ b ∧ b ≤ u) → Q (some (.int (J b))) h := by
    intro i b e o m
    subst e
    have : stp (aI h 266) (nightP (aI h 266)) a g = b := by
      rcases o with o | o
      · subst o
        refine lst_no fun u hu z => ?_
        obtain ⟨⟨e, e1, e2, e3⟩, z2, -⟩ := z
        have := m e u e1.1 e1.2 e2 e3 z2
        omega
      · refine lst_eq o.1 o.2 fun u hu z => ?_
        obtain ⟨⟨e, e1, e2, e3⟩, z2, -⟩ := z
        exact (m e u e1.1 e1.2 e2 e3 z2).2
    rw [this] at k
    exact k
  intro n
  induction n with
  | zero => intro i b l6 h1 h2 h3 o m; exact r221_31 C hd ⟨by omega, fun c => fin i b (by omega) o m, fun c => absurd (by omega) c⟩
  | succ n ih =>
    intro i b l6 h1 h2 h3 o m
    have br : -1 ≤ b ∧ b < 8 := by
      rcases o with o | o
      · omega
      · have := (adj_in W o.2.1).2; omega
    refine r221_31 C hd ⟨by omega, fun c => fin i b (by omega) o m, fun c => ⟨W, by omega, fun c2 => ?_, fun c2 => ?_⟩⟩
    · refine ih _ _ _ (by omega) (by omega) (by omega) o (fun e u h1 h2 x y z => ?_)
      by_cases q : e = i
      · subst q; exact absurd x c2
      · exact m e u h1 (by omega) x y z
    · have dd := W.2.2.2.1 i (by omega) (by omega)
      have nx : ∀ u b', (nr (aI h 266) i = a ∧ fr (aI h 266) i = u ∨ nr (aI h 266) i = u ∧ fr (aI h 266) i = a) → (b' = b ∨ b' = u) → (b' = -1 ∨ 0 ≤ b' ∧ stpP (aI h 266) (nightP (aI h 266)) a g b') → (lft (aI h 266) (nightP (aI h 266)) u g + 1 = lft (aI h 266) (nightP (aI h 266)) a g → 0 ≤ b' ∧ b' ≤ u) → (0 ≤ b → 0 ≤ b' ∧ b' ≤ b) → ∀ l6, Ex X PG (d + 1) 221 31 [some (.ref 256), some (.int (J p)), some (.int (J a)), some (.int (J (lft (aI h 266) (nightP (aI h 266)) a g))), some (.int (J b')), some (.int (J (i + 1))), l6] [] h Q := by
        intro u b' hu _ ob le mo l6
        refine ih _ _ _ (by omega) (by omega) (by omega) ob (fun e v h1 h2 x y z => ?_)
        by_cases q : e = i
        · have : v = u := by
            subst q
            rcases hu with hu | hu <;> rcases y with y | y <;> omega
          rw [this] at z ⊢
          exact le z
        · have := m e v h1 (by omega) x y z
          have := mo this.1
          omega
      refine ⟨by omega, by omega, fun c3 => ?_, fun c3 => ?_⟩
      · have ad : adj (aI h 266) (nightP (aI h 266)) a (fr (aI h 266) i) := ⟨i, by omega, c2, Or.inl ⟨c3, rfl⟩⟩
        have tb := lft_b (aI h 266) (nightP (aI h 266)) a g
        rw [hD _ (by omega) (by omega)]
        refine ⟨by omega, by omega, fun c4 => ?_, fun c4 => ⟨by omega, fun c5 => ?_, fun c5 => ⟨fun c6 => ?_, fun c6 => ?_⟩⟩⟩
        · exact nx _ _ (Or.inl ⟨c3, rfl⟩) (Or.inl rfl) o (fun z => absurd (by omega) c4) (fun z => ⟨z, Int.le_refl _⟩) _
        · exact nx _ _ (Or.inl ⟨c3, rfl⟩) (Or.inr rfl) (Or.inr ⟨by omega, ad, by omega, h9⟩) (fun _ => by omega) (fun z => by omega) _
        · exact nx _ _ (Or.inl ⟨c3, rfl⟩) (Or.inl rfl) o (fun z => by omega) (fun z => ⟨z, Int.le_refl _⟩) _
        · exact nx _ _ (Or.inl ⟨c3, rfl⟩) (Or.inr rfl) (Or.inr ⟨by omega, ad, by omega, h9⟩) (fun _ => by omega) (fun z => by omega) _
      · refine ⟨fun c7 => ?_, fun c7 => ?_⟩
        · have ad : adj (aI h 266) (nightP (aI h 266)) a (nr (aI h 266) i) := ⟨i, by omega, c2, Or.inr ⟨rfl, c7⟩⟩
          have tb := lft_b (aI h 266) (nightP (aI h 266)) a g
          rw [hD _ (by omega) (by omega)]
          refine ⟨by omega, by omega, fun c4 => ?_, fun c4 => ⟨by omega, fun c5 => ?_, fun c5 => ⟨fun c6 => ?_, fun c6 => ?_⟩⟩⟩
          · exact nx _ _ (Or.inr ⟨rfl, c7⟩) (Or.inl rfl) o (fun z => absurd (by omega) c4) (fun z => ⟨z, Int.le_refl _⟩) _
          · exact nx _ _ (Or.inr ⟨rfl, c7⟩) (Or.inr rfl) (Or.inr ⟨by omega, ad, by omega, h9⟩) (fun _ => by omega) (fun z => by omega) _
          · exact nx _ _ (Or.inr ⟨rfl, c7⟩) (Or.inl rfl) o (fun z => by omega) (fun z => ⟨z, Int.le_refl _⟩) _
          · exact nx _ _ (Or.inr ⟨rfl, c7⟩) (Or.inr rfl) (Or.inr ⟨by omega, ad, by omega, h9⟩) (fun _ => by omega) (fun z => by omega) _
        · refine ih _ _ _ (by omega) (by omega) (by omega) o (fun e u h1 h2 x y z => ?_)
          by_cases q : e = i
          · subst q; exact absurd y (by omega)
          · exact m e u h1 (by omega) x y z
theorem m221 {X : Cst} {d : Nat} {p : Int} {h : AH} {Q : Post} (C : Lay h) (hd : 6 ≤ d) (W : WF 999 (aI h 266)) (hp : 0 ≤ p ∧ p < aI h 266 2)
    (k : ∀ h', SH h h' → Fr (fun c _ => c = 267) h h' → Q (some (.int (J (stp (aI h 266) (nightP (aI h 266)) (pS (aI h 266) p 0) (pS (aI h 266) p 1))))) h') : Ex X PG d 221 0 [some (.ref 256), some (.int (J p)), none, none, none, none, none] [] h Q := by
  obtain ⟨d, rfl⟩ : ∃ e, d = e + 1 := ⟨d - 1, by omega⟩
  have b := W.1
  unfold WFb at b
  have pp := W.2.1 p hp.1 hp.2
  refine r221_0 C (by omega) ⟨by omega, W, hp, fun h2 s po => ⟨fun c => ?_, fun c => ⟨fun c2 => ?_, fun c2 => ?_⟩⟩⟩
  · have := k h2 s po.1
    rw [show stp (aI h 266) (nightP (aI h 266)) (pS (aI h 266) p 0) (pS (aI h 266) p 1) = -1 from lst_no fun u hu z => by have := z.2.1; have := lft_b (aI h 266) (nightP (aI h 266)) u (pS (aI h 266) p 1); omega] at this
    exact this
  · have e := po.1.a 266 (fun _ => by decide)
    have tb := lft_b (aI h 266) (nightP (aI h 266)) (pS (aI h 266) p 0) (pS (aI h 266) p 1)
    have fin := q221_31 (X := X) (d := d) (p := p) (a := pS (aI h 266) p 0) (g := pS (aI h 266) p 1) (h := h2) (Q := Q) (po.1.C C) (by omega) (by rw [e]; exact W) (by rw [e]; omega) (by rw [e]; exact po.2) (by rw [e]; omega) (by rw [e]; exact k h2 s po.1) (aI h2 266 1).toNat 0 (-1) none (by omega) (by omega) (by rw [e]; omega) (Or.inl rfl) (fun e u h1 h2 => by omega)
    rw [e] at fin
    exact fin
  · have := k h2 s po.1
    rw [show stp (aI h 266) (nightP (aI h 266)) (pS (aI h 266) p 0) (pS (aI h 266) p 1) = -1 from lst_no fun u hu z => by have := z.2.2; omega] at this
    exact this
theorem stp_rg {N : Int} {S : Int → Int} (W : WF N S) (t : Prop) (a g : Int) : -2147483648 ≤ stp S t a g ∧ stp S t a g < 2147483648 := by
  have := W.1
  unfold WFb at this
  rcases stp_b W t a g with h | h <;> omega
