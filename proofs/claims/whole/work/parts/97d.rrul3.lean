/-! RULES as the reference reads them: what is open, facts and tests. -/
def stg (x : Int) : Int := if x = 13 then 1 else if x = 12 then 2 else if x = 11 then 3 else 0
def StA (U : Int → Int) : List Int → Prop
  | [] => True
  | x :: s => U s.length = x ∧ StA U s
def dpt : List Int → Int
  | [] => 0
  | x :: s => (if x = 11 ∨ x = 91 then 1 else 0) + dpt s
def pnd : List Int → Int
  | [] => 0
  | x :: s => (if x = 91 then 0 else 1) + pnd s
def pp (l : Int) : List Int → Cd
  | [] => []
  | x :: s => if l ≤ stg x then (x, 0) :: pp l s else []
def pr (l : Int) : List Int → List Int
  | [] => []
  | x :: s => if l ≤ stg x then pr l s else x :: s
def OkS (s : List Int) : Prop := ∀ x ∈ s, x = 11 ∨ x = 12 ∨ x = 13 ∨ x = 91
theorem OkS.tl {x : Int} {s : List Int} (h : OkS (x :: s)) : OkS s := fun y hy => h y (List.mem_cons_of_mem x hy)
theorem OkS.hd {x : Int} {s : List Int} (h : OkS (x :: s)) : x = 11 ∨ x = 12 ∨ x = 13 ∨ x = 91 := h x List.mem_cons_self
theorem OkS.cons {x : Int} {s : List Int} (h : OkS s) (hx : x = 11 ∨ x = 12 ∨ x = 13 ∨ x = 91) : OkS (x :: s) := fun y hy => by
  rcases List.mem_cons.mp hy with e | e
  · rw [e]; exact hx
  · exact h y e
theorem OkS.rest {l : Int} : ∀ {s : List Int}, OkS s → OkS (pr l s) := by
  intro s
  induction s with
  | nil => intro h; exact h
  | cons x s ih =>
    intro h
    show OkS (if l ≤ stg x then pr l s else x :: s)
    split
    · exact ih h.tl
    · exact h
theorem pnd_b : ∀ s : List Int, 0 ≤ pnd s ∧ pnd s ≤ s.length := by
  intro s
  induction s with
  | nil => exact ⟨Int.le_refl 0, Int.le_refl 0⟩
  | cons x s ih =>
    show 0 ≤ (if x = 91 then 0 else 1) + pnd s ∧ (if x = 91 then 0 else 1) + pnd s ≤ ((x :: s).length : Int)
    rw [List.length_cons]
    split <;> omega
theorem dpt_b : ∀ s : List Int, 0 ≤ dpt s ∧ dpt s ≤ s.length := by
  intro s
  induction s with
  | nil => exact ⟨Int.le_refl 0, Int.le_refl 0⟩
  | cons x s ih =>
    show 0 ≤ (if x = 11 ∨ x = 91 then 1 else 0) + dpt s ∧ (if x = 11 ∨ x = 91 then 1 else 0) + dpt s ≤ ((x :: s).length : Int)
    rw [List.length_cons]
    split <;> omega
theorem pp_len {l : Int} (hl : 1 ≤ l) : ∀ s : List Int, ((pp l s).length : Int) + pnd (pr l s) = pnd s ∧ (pr l s).length ≤ s.length := by
  intro s
  induction s with
  | nil => exact ⟨rfl, Nat.le_refl _⟩
  | cons x s ih =>
    by_cases c : l ≤ stg x
    · rw [show pp l (x :: s) = (x, 0) :: pp l s from if_pos c, show pr l (x :: s) = pr l s from if_pos c]
      have n : ¬ x = 91 := fun z => by rw [z] at c; have : stg 91 = 0 := by decide
                                       omega
      rw [show pnd (x :: s) = (if x = 91 then 0 else 1) + pnd s from rfl, if_neg n, List.length_cons, List.length_cons]
      omega
    · rw [show pp l (x :: s) = [] from if_neg c, show pr l (x :: s) = x :: s from if_neg c]
      exact ⟨by show (0 : Int) + _ = _; omega, Nat.le_refl _⟩
def StR (h : AH) (s : List Int) : Prop := fI h 256 16 = s.length ∧ fI h 256 13 = dpt s ∧ StA (aI h 263) s
theorem StR.fr {T : Nat → Nat → Prop} {h h' : AH} {s : List Int} (R : StR h s) (F : Fr T h h') (n : ∀ a k, T a k → ¬ (a = 256 ∧ (k = 13 ∨ k = 16)) ∧ ¬ a = 263) : StR h' s := by
  unfold StR
  rw [F.f 256 16 (fun z => (n _ _ z).1 ⟨rfl, Or.inr rfl⟩), F.f 256 13 (fun z => (n _ _ z).1 ⟨rfl, Or.inl rfl⟩), F.a 263 (fun k z => (n _ _ z).2 rfl)]
  exact R
theorem StA_cg {U V : Int → Int} : ∀ s : List Int, (∀ i : Int, 0 ≤ i → i < s.length → V i = U i) → StA U s → StA V s := by
  intro s
  induction s with
  | nil => intro _ _; trivial
  | cons x s ih =>
    intro e h
    rw [List.length_cons] at e
    exact ⟨by rw [e s.length (by omega) (by omega)]; exact h.1, ih (fun i i0 i1 => e i i0 (by omega)) h.2⟩
theorem StA_91 {U : Int → Int} : ∀ s : List Int, StA U s → ((91 : Int) ∈ s ↔ ∃ i : Int, (0 ≤ i ∧ i < s.length) ∧ U i = 91) := by
  intro s
  induction s with
  | nil =>
    intro _
    refine ⟨fun z => absurd z List.not_mem_nil, fun z => ?_⟩
    obtain ⟨i, hi, -⟩ := z
    have : (([] : List Int).length : Int) = 0 := rfl
    omega
  | cons x s ih =>
    intro h
    have i' := ih h.2
    constructor
    · intro z
      rcases List.mem_cons.mp z with e | e
      · exact ⟨s.length, by rw [List.length_cons]; omega, h.1.trans e.symm⟩
      · obtain ⟨i, hi, e2⟩ := i'.mp e
        exact ⟨i, by rw [List.length_cons]; omega, e2⟩
    · intro z
      obtain ⟨i, hi, e⟩ := z
      rw [List.length_cons] at hi
      by_cases q : i = s.length
      · rw [q] at e; exact List.mem_cons.mpr (Or.inl (e.symm.trans h.1))
      · exact List.mem_cons_of_mem _ (i'.mpr ⟨i, by omega, e⟩)
def TRt (t : Nat) (c k : Nat) : Prop := (c = 256 ∧ (k = 8 ∨ k = 9 ∨ k = 10 ∨ k = 12 ∨ k = 13 ∨ k = 16)) ∨ c = 263 ∨ TRp t c k
theorem TRs_t {t c k : Nat} (z : TRz t c k) : TRt t c k := by unfold TRz TRp at z; unfold TRt TRp; omega
theorem TNx_t {t c k : Nat} (z : TNx c k) : TRt t c k := TRs_t (TNx_s z)
def TOs (c k : Nat) : Prop := (c = 256 ∧ (k = 13 ∨ k = 16)) ∨ c = 263
theorem TOs_t {t c k : Nat} (z : TOs c k) : TRt t c k := by unfold TOs at z; unfold TRt TRp; omega
theorem RP.os {h h' : AH} {tp : Int → Int} {L j p : Int} {c : Cd} {t : Nat} (R : RP h tp L j p c t) (ht : t < 6) (hc : c.length ≤ 400) (F : Fr TOs h h') : RP h' tp L j p c t :=
  ⟨R.1.fr F (by unfold TOs; omega) (by unfold TOs; omega) (by unfold TOs; omega) (by unfold TOs; omega), by rw [F.f 256 12 (by unfold TOs; omega)]; exact R.2.1, by rw [F.f 256 11 (by unfold TOs; omega)]; exact R.2.2.1, R.2.2.2.fr ht hc F (fun a k z => by unfold TOs at z; unfold TRp; omega)⟩
-- OutwardDoorsModel.strength(I)I at 0
set_option maxRecDepth 20000 in
set_option maxHeartbeats 4000000 in
theorem r205_0 {X : Cst} {d : Nat} {x0 : Int} {h : AH} {Q : Post} (C_h : Lay h)
  (w : (-2147483648 ≤ x0 ∧ x0 < 2147483648) ∧ ((¬ x0 = 13 → ((¬ x0 = 12 → ((¬ x0 = 11 → Q (some (.int (J 0))) h) ∧ (x0 = 11 → Q (some (.int (J 3))) h))) ∧ (x0 = 12 → Q (some (.int (J 2))) h))) ∧ (x0 = 13 → Q (some (.int (J 1))) h))) :
    Ex X PG (d + 1) 205 0 [some (.int (J x0))] [] h Q := by
  refine wpx_ok (cut := []) 12 d 205 0 _ _ _ _ ?_
  show ((¬ (J x0) = (J 13) → ((¬ (J x0) = (J 12) → ((¬ (J x0) = (J 11) → Q (some (.int (J 0))) h) ∧ (¬ (¬ (J x0) = (J 11)) → Q (some (.int (J 3))) h))) ∧ (¬ (¬ (J x0) = (J 12)) → Q (some (.int (J 2))) h))) ∧ (¬ (¬ (J x0) = (J 13)) → Q (some (.int (J 1))) h))
  try simp only [aI_wAL, fI_wAL, aL_wA, aL_wF, aI_wA_ne, aI_wF_ne, fI_wA_ne, fI_wF_ne, fI_wF_nk, aL_wAL_ne, J_sameA, J_sameF, aL_same, Nat.add_left_cancel_iff, Nat.add_eq_left, Nat.left_eq_add, not_false_eq_true, Nat.reduceEqDiff, Nat.reduceAdd, J_add, J_sub, J_mul, J_neg, J_and, J_or, J_xor, J_shl, J_shr, J_div, J_i2b, J_i2l, J_l2i, J_lcm, J_max, J_min, J_nab, J_nao, rdA, rdF, rdL, wA_fold, wF_fold, wL_fold, wC_fold]
  obtain ⟨k3, w⟩ := w
  refine ⟨fun c1 => ?_, fun c1 => ?_⟩
  · have t2 : ¬ x0 = 13 := (fun e => c1 ((Jeq k3 (by decide)).mpr e))
    replace w := w.1 t2
    refine ⟨fun c4 => ?_, fun c4 => ?_⟩
    · have t5 : ¬ x0 = 12 := (fun e => c4 ((Jeq k3 (by decide)).mpr e))
      replace w := w.1 t5
      refine ⟨fun c6 => ?_, fun c6 => ?_⟩
      · have t7 : ¬ x0 = 11 := (fun e => c6 ((Jeq k3 (by decide)).mpr e))
        replace w := w.1 t7
        exact w
      · have t7 : x0 = 11 := ((Jeq k3 (by decide)).mp (Classical.byContradiction c6))
        replace w := w.2 t7
        exact w
    · have t5 : x0 = 12 := ((Jeq k3 (by decide)).mp (Classical.byContradiction c4))
      replace w := w.2 t5
      exact w
  · have t2 : x0 = 13 := ((Jeq k3 (by decide)).mp (Classical.byContradiction c1))
    replace w := w.2 t2
    exact w
theorem m205 {X : Cst} {d : Nat} {x : Int} {h : AH} {Q : Post} (C : Lay h) (hd : 1 ≤ d) (g : -2147483648 ≤ x ∧ x < 2147483648) (k : Q (some (.int (J (stg x)))) h) : Ex X PG d 205 0 [some (.int (J x))] [] h Q := by
  obtain ⟨d, rfl⟩ : ∃ e, d = e + 1 := ⟨d - 1, by omega⟩
  unfold stg at k
  refine r205_0 C ⟨g, fun c1 => ⟨fun c2 => ⟨fun c3 => ?_, fun c3 => ?_⟩, fun c2 => ?_⟩, fun c1 => ?_⟩
  · rw [if_neg c1, if_neg c2, if_neg c3] at k; exact k
  · rw [if_neg c1, if_neg c2, if_pos c3] at k; exact k
  · rw [if_neg c1, if_pos c2] at k; exact k
  · rw [if_pos c1] at k; exact k
theorem stg_b (x : Int) : 0 ≤ stg x ∧ stg x ≤ 3 := by unfold stg; (repeat' split) <;> omega
def TOz (c k : Nat) : Prop := c = 256 ∧ (k = 13 ∨ k = 16)
theorem TOz_s {c k : Nat} (z : TOz c k) : TOs c k := Or.inl z
def TSt (t : Nat) (c k : Nat) : Prop := TOz c k ∨ TRp t c k
theorem TSt_t {t c k : Nat} (z : TSt t c k) : TRt t c k := by unfold TSt TOz TRp at z; unfold TRt TRp; omega
-- OutwardDoorsModel.settles(I)V at 0
set_option maxRecDepth 20000 in
set_option maxHeartbeats 4000000 in
theorem r204_0 {X : Cst} {d : Nat} {x1 : Int} {h : AH} {Q : Post} (C_h : Lay h)
  (w : ((fI h 256 16 ≤ 0 → Q none h) ∧ (¬ fI h 256 16 ≤ 0 → (0 ≤ (fI h 256 16) - 1 ∧ (fI h 256 16) - 1 < 400) ∧ Ex X PG d 205 0 [some (.int (J (aI h 263 ((fI h 256 16) - 1))))] [] h (fun v5 h6 => ∃ r7 : Int, (-2147483648 ≤ r7 ∧ r7 < 2147483648) ∧ v5 = some (.int (J r7)) ∧ SH h h6 ∧ (-2147483648 ≤ x1 ∧ x1 < 2147483648) ∧ ((r7 < x1 → Q none h6) ∧ (¬ r7 < x1 → (0 ≤ (fI h6 256 16) - 1 ∧ (fI h6 256 16) - 1 < 400) ∧ Ex X PG d 196 0 [some (.ref 256), some (.int (J (aI h6 263 ((fI h6 256 16) - 1)))), some (.int (J 0))] [] (wF h6 256 16 ((fI h6 256 16) - 1)) (fun v13 h14 => v13 = none ∧ SH (wF h6 256 16 ((fI h6 256 16) - 1)) h14 ∧ (0 ≤ fI h14 256 16 ∧ fI h14 256 16 < 400) ∧ ((¬ aI h14 263 (fI h14 256 16) = 11 → Ex X PG (d + 1) 204 0 [some (.ref 256), some (.int (J x1))] [] h14 Q) ∧ (aI h14 263 (fI h14 256 16) = 11 → Ex X PG (d + 1) 204 0 [some (.ref 256), some (.int (J x1))] [] (wF h14 256 13 ((fI h14 256 13) - 1)) Q))))))))) :
    Ex X PG (d + 1) 204 0 [some (.ref 256), some (.int (J x1))] [] h Q := by
  refine wpx_ok (cut := [0]) 41 d 204 0 _ _ _ _ ?_
  show hs h 256 = (0, 11) ∧ (((hF h 256 16) ≤ (J 0) → Q none h) ∧ (¬ ((hF h 256 16) ≤ (J 0)) → hs h 256 = (0, 11) ∧ ∃ q3, hR h 256 15 = some q3 ∧ hs h 256 = (0, 11) ∧ (hs h q3).1 = 1 ∧ ix ((hF h 256 16) - (J 1)) (hs h q3).2 ∧ Ex X PG d 205 0 [some (.int (hI h q3 (Int32.toNatClampNeg ((hF h 256 16) - (J 1)))))] [] h (fun v5 h6 => ∃ r7, v5 = some (.int r7) ∧ ((r7 < (J x1) → Q none h6) ∧ (¬ (r7 < (J x1)) → hs h6 256 = (0, 11) ∧ hs h6 256 = (0, 11) ∧ hs (wG h6 256 16 ((hF h6 256 16) - (J 1))) 256 = (0, 11) ∧ ∃ q11, hR (wG h6 256 16 ((hF h6 256 16) - (J 1))) 256 15 = some q11 ∧ hs (wG h6 256 16 ((hF h6 256 16) - (J 1))) 256 = (0, 11) ∧ (hs (wG h6 256 16 ((hF h6 256 16) - (J 1))) q11).1 = 1 ∧ ix (hF (wG h6 256 16 ((hF h6 256 16) - (J 1))) 256 16) (hs (wG h6 256 16 ((hF h6 256 16) - (J 1))) q11).2 ∧ hs (wG h6 256 16 ((hF h6 256 16) - (J 1))) 256 = (0, 11) ∧ Ex X PG d 196 0 [some (.ref 256), some (.int (hI (wG h6 256 16 ((hF h6 256 16) - (J 1))) q11 (Int32.toNatClampNeg (hF (wG h6 256 16 ((hF h6 256 16) - (J 1))) 256 16)))), some (.int (J 0))] [] (wG h6 256 16 ((hF h6 256 16) - (J 1))) (fun v13 h14 => v13 = none ∧ hs h14 256 = (0, 11) ∧ ∃ q15, hR h14 256 15 = some q15 ∧ hs h14 256 = (0, 11) ∧ (hs h14 q15).1 = 1 ∧ ix (hF h14 256 16) (hs h14 q15).2 ∧ ((¬ (hI h14 q15 (Int32.toNatClampNeg (hF h14 256 16))) = (J 11) → Ex X PG (d + 1) 204 0 [some (.ref 256), some (.int (J x1))] [] h14 Q) ∧ (¬ (¬ (hI h14 q15 (Int32.toNatClampNeg (hF h14 256 16))) = (J 11)) → hs h14 256 = (0, 11) ∧ hs h14 256 = (0, 11) ∧ Ex X PG (d + 1) 204 0 [some (.ref 256), some (.int (J x1))] [] (wG h14 256 13 ((hF h14 256 13) - (J 1))) Q))))))))
  try simp only [aI_wAL, fI_wAL, aL_wA, aL_wF, aI_wA_ne, aI_wF_ne, fI_wA_ne, fI_wF_ne, fI_wF_nk, aL_wAL_ne, J_sameA, J_sameF, aL_same, Nat.add_left_cancel_iff, Nat.add_eq_left, Nat.left_eq_add, not_false_eq_true, Nat.reduceEqDiff, Nat.reduceAdd, J_add, J_sub, J_mul, J_neg, J_and, J_or, J_xor, J_shl, J_shr, J_div, J_i2b, J_i2l, J_l2i, J_lcm, J_max, J_min, J_nab, J_nao, rdA, rdF, rdL, wA_fold, wF_fold, wL_fold, wC_fold]
  refine ⟨(ls256 C_h), ?_⟩
  refine ⟨fun c1 => ?_, fun c1 => ?_⟩
  · have t2 : fI h 256 16 ≤ 0 := ((Jle (rg_toInt _) (by decide)).mp c1)
    replace w := w.1 t2
    exact w
  · have t2 : ¬ fI h 256 16 ≤ 0 := (fun e => c1 ((Jle (rg_toInt _) (by decide)).mpr e))
    replace w := w.2 t2
    refine ⟨(ls256 C_h), _, (lr256_15 C_h), ?_⟩
    refine ⟨(ls256 C_h), ?_⟩
    obtain ⟨k4, w⟩ := w
    refine ⟨congrArg Prod.fst (ls263 C_h), ixs (ls263 C_h) k4 (by decide), ?_⟩
    refine Ex.mono w (Nat.le_refl _) ?_
    rintro v5 h6 ⟨r7, gr7, rfl, s20, w⟩
    refine ⟨_, rfl, ?_⟩
    have C_h6 := Lay_SH s20 C_h
    try simp only [aI_wAL, fI_wAL, aL_wA, aL_wF, aI_wA_ne, aI_wF_ne, fI_wA_ne, fI_wF_ne, fI_wF_nk, aL_wAL_ne, J_sameA, J_sameF, aL_same, Nat.add_left_cancel_iff, Nat.add_eq_left, Nat.left_eq_add, not_false_eq_true, Nat.reduceEqDiff, Nat.reduceAdd, J_add, J_sub, J_mul, J_neg, J_and, J_or, J_xor, J_shl, J_shr, J_div, J_i2b, J_i2l, J_l2i, J_lcm, J_max, J_min, J_nab, J_nao, rdA, rdF, rdL, wA_fold, wF_fold, wL_fold, wC_fold]
    obtain ⟨k10, w⟩ := w
    refine ⟨fun c8 => ?_, fun c8 => ?_⟩
    · have t9 : r7 < x1 := ((Jlt gr7 k10).mp c8)
      replace w := w.1 t9
      exact w
    · have t9 : ¬ r7 < x1 := (fun e => c8 ((Jlt gr7 k10).mpr e))
      replace w := w.2 t9
      refine ⟨(ls256 C_h6), ?_⟩
      refine ⟨(ls256 C_h6), ?_⟩
      refine ⟨(ls256 C_h6), _, (lr256_15 C_h6), ?_⟩
      refine ⟨(ls256 C_h6), ?_⟩
      obtain ⟨k12, w⟩ := w
      refine ⟨congrArg Prod.fst (ls263 C_h6), ixs (ls263 C_h6) k12 (by decide), ?_⟩
      try simp only [aI_wAL, fI_wAL, aL_wA, aL_wF, aI_wA_ne, aI_wF_ne, fI_wA_ne, fI_wF_ne, fI_wF_nk, aL_wAL_ne, J_sameA, J_sameF, aL_same, Nat.add_left_cancel_iff, Nat.add_eq_left, Nat.left_eq_add, not_false_eq_true, Nat.reduceEqDiff, Nat.reduceAdd]
      refine ⟨(ls256 C_h6), ?_⟩
      refine Ex.mono w (Nat.le_refl _) ?_
      rintro v13 h14 ⟨rfl, s19, w⟩
      refine ⟨rfl, ?_⟩
      have C_h14 := Lay_SH s19 C_h6
      try simp only [aI_wAL, fI_wAL, aL_wA, aL_wF, aI_wA_ne, aI_wF_ne, fI_wA_ne, fI_wF_ne, fI_wF_nk, aL_wAL_ne, J_sameA, J_sameF, aL_same, Nat.add_left_cancel_iff, Nat.add_eq_left, Nat.left_eq_add, not_false_eq_true, Nat.reduceEqDiff, Nat.reduceAdd, J_add, J_sub, J_mul, J_neg, J_and, J_or, J_xor, J_shl, J_shr, J_div, J_i2b, J_i2l, J_l2i, J_lcm, J_max, J_min, J_nab, J_nao, rdA, rdF, rdL, wA_fold, wF_fold, wL_fold, wC_fold]
      refine ⟨(ls256 C_h14), _, (lr256_15 C_h14), ?_⟩
      refine ⟨(ls256 C_h14), ?_⟩
      obtain ⟨k16, w⟩ := w
      refine ⟨congrArg Prod.fst (ls263 C_h14), ixs (ls263 C_h14) k16 (by decide), ?_⟩
      refine ⟨fun c17 => ?_, fun c17 => ?_⟩
      · have t18 : ¬ aI h14 263 (fI h14 256 16) = 11 := (fun e => c17 ((Jeq (rg_toInt _) (by decide)).mpr e))
        replace w := w.1 t18
        exact w
      · have t18 : aI h14 263 (fI h14 256 16) = 11 := ((Jeq (rg_toInt _) (by decide)).mp (Classical.byContradiction c17))
        replace w := w.2 t18
        refine ⟨(ls256 C_h14), ?_⟩
        refine ⟨(ls256 C_h14), ?_⟩
        exact w
theorem m204 {X : Cst} {d t : Nat} {L j p l : Int} {tp : Int → Int} {h : AH} {Q : Post} (C : Lay h) (hd : 2 ≤ d) (ht : t < 6) (hl : 1 ≤ l ∧ l ≤ 3) :
    ∀ (s : List Int) (c : Cd) (h' : AH), Fr (TSt t) h h' → RP h' tp L j p c t → StR h' s → OkS s → (c.length : Int) + pnd s ≤ 400 → s.length ≤ 400 → (∀ h2, Fr (TSt t) h h2 → RP h2 tp L j p (c ++ pp l s) t → StR h2 (pr l s) → Q none h2) → Ex X PG d 204 0 [some (.ref 256), some (.int (J l))] [] h' Q := by
  obtain ⟨d, rfl⟩ : ∃ e, d = e + 1 := ⟨d - 1, by omega⟩
  intro s
  induction s with
  | nil =>
    intro c h' F R S O hc hs' k
    refine r204_0 (F.C C) ?_
    rw [S.1]
    refine ⟨fun _ => ?_, fun z => absurd (Int.le_refl 0) z⟩
    have := k h' F
    rw [show c ++ pp l [] = c from List.append_nil c] at this
    exact this R S
  | cons x s ih =>
    intro c h' F R S O hc hs' k
    have C' := F.C C
    have s1 := S.1
    have s2 := S.2.1
    have s3 := S.2.2
    have dp := dpt_b s
    have pb := pnd_b s
    rw [show dpt (x :: s) = (if x = 11 ∨ x = 91 then 1 else 0) + dpt s from rfl] at s2
    rw [show pnd (x :: s) = (if x = 91 then 0 else 1) + pnd s from rfl] at hc
    rw [List.length_cons] at s1 hs'
    have hx := O.hd
    refine r204_0 C' ?_
    rw [s1, show ((s.length + 1 : Nat) : Int) - 1 = s.length by omega, s3.1]
    refine ⟨fun z => absurd z (by omega), fun _ => ⟨by omega, ?_⟩⟩
    refine m205 C' (by omega) (by omega) ⟨_, by have := stg_b x; omega, rfl, SH.rf, by omega, fun c1 => ?_, fun c1 => ?_⟩
    · have := k h' F
      rw [show pp l (x :: s) = [] from if_neg (by omega), show pr l (x :: s) = x :: s from if_neg (by omega), List.append_nil] at this
      exact this R S
    · rw [show pp l (x :: s) = (x, 0) :: pp l s from if_pos (by omega), show pr l (x :: s) = pr l s from if_pos (by omega)] at k
      have n91 : ¬ x = 91 := fun z => by rw [z] at c1; have : stg 91 = 0 := by decide
                                         omega
      rw [if_neg n91] at hc
      have Fa : Fr TOz h' (wF h' 256 16 s.length) := Fr.rf.wF (by unfold TOz; omega)
      have Ra := R.os ht (by omega) (Fa.mo (fun _ _ => TOz_s))
      rw [s1, show ((s.length + 1 : Nat) : Int) - 1 = s.length by omega, s3.1]
      refine ⟨by omega, ?_⟩
      refine m196 (c := c) (Fa.C C') (by omega) ht Ra.2.2.1 Ra.2.2.2 (by omega) (by omega) (fun h3 F3 G3 => ⟨rfl, F3.1, ?_⟩)
      have R3 := Ra.put F3 G3
      have Fb : Fr (TSt t) h h3 := F.tr ((Fa.mo (fun _ _ z => Or.inl z)).tr (F3.mo (fun _ _ z => Or.inr z)))
      have e16 : fI h3 256 16 = s.length := by rw [F3.f 256 16 (by unfold TRp; omega), fI_wF_eq (by omega)]
      have e13 : fI h3 256 13 = dpt (x :: s) := by rw [F3.f 256 13 (by unfold TRp; omega), fI_wF_nk (by decide)]; exact S.2.1
      have e263 : aI h3 263 = aI h' 263 := by rw [F3.a 263 (by unfold TRp; omega), aI_wF_ne (by decide)]
      rw [e16, e263, s3.1]
      have la : ((c ++ [(x, 0)]).length : Int) = c.length + 1 := len_ap
      have kk : ∀ h2, Fr (TSt t) h h2 → RP h2 tp L j p ((c ++ [(x, 0)]) ++ pp l s) t → StR h2 (pr l s) → Q none h2 := by
        intro h2 F2 R2 S2
        rw [List.append_assoc] at R2
        exact k h2 F2 R2 S2
      refine ⟨by omega, fun c2 => ?_, fun c2 => ?_⟩
      · refine ih _ h3 Fb R3 ⟨e16, ?_, by rw [e263]; exact s3.2⟩ O.tl (by omega) (by omega) kk
        rw [e13, show dpt (x :: s) = (if x = 11 ∨ x = 91 then 1 else 0) + dpt s from rfl, if_neg (by omega)]; omega
      · have Fc : Fr TOz h3 (wF h3 256 13 (fI h3 256 13 - 1)) := Fr.rf.wF (by unfold TOz; omega)
        have e13' : fI h3 256 13 - 1 = dpt s := by rw [e13, show dpt (x :: s) = (if x = 11 ∨ x = 91 then 1 else 0) + dpt s from rfl, if_pos (Or.inl c2)]; omega
        refine ih _ _ (Fb.tr (Fc.mo (fun _ _ z => Or.inl z))) (R3.os ht (by omega) (Fc.mo (fun _ _ => TOz_s))) ⟨by rw [fI_wF_nk (by decide)]; exact e16, by rw [fI_wF_eq (by omega)]; exact e13', by rw [aI_wF_ne (by decide), e263]; exact s3.2⟩ O.tl (by omega) (by omega) kk
-- OutwardDoorsModel.isInside()Z at 0
set_option maxRecDepth 20000 in
set_option maxHeartbeats 4000000 in
theorem r206_0 {X : Cst} {d : Nat}  {h : AH} {Q : Post} (C_h : Lay h)
  (w : Ex X PG (d + 1) 206 2 [some (.ref 256), some (.int (J 0))] [] h Q) :
    Ex X PG (d + 1) 206 0 [some (.ref 256), none] [] h Q := by
  refine wpx_ok (cut := [2]) 2 d 206 0 _ _ _ _ ?_
  show Ex X PG (d + 1) 206 2 [some (.ref 256), some (.int (J 0))] [] h Q
  try simp only [aI_wAL, fI_wAL, aL_wA, aL_wF, aI_wA_ne, aI_wF_ne, fI_wA_ne, fI_wF_ne, fI_wF_nk, aL_wAL_ne, J_sameA, J_sameF, aL_same, Nat.add_left_cancel_iff, Nat.add_eq_left, Nat.left_eq_add, not_false_eq_true, Nat.reduceEqDiff, Nat.reduceAdd, J_add, J_sub, J_mul, J_neg, J_and, J_or, J_xor, J_shl, J_shr, J_div, J_i2b, J_i2l, J_l2i, J_lcm, J_max, J_min, J_nab, J_nao, rdA, rdF, rdL, wA_fold, wF_fold, wL_fold, wC_fold]
  exact w
-- OutwardDoorsModel.isInside()Z at 2
set_option maxRecDepth 20000 in
set_option maxHeartbeats 4000000 in
theorem r206_2 {X : Cst} {d : Nat} {x1 : Int} {h : AH} {Q : Post} (C_h : Lay h)
  (w : (-2147483648 ≤ x1 ∧ x1 < 2147483648) ∧ ((fI h 256 16 ≤ x1 → Q (some (.int (J 0))) h) ∧ (¬ fI h 256 16 ≤ x1 → (0 ≤ x1 ∧ x1 < 400) ∧ ((¬ aI h 263 x1 = 91 → Ex X PG (d + 1) 206 2 [some (.ref 256), some (.int (J (x1 + 1)))] [] h Q) ∧ (aI h 263 x1 = 91 → Q (some (.int (J 1))) h))))) :
    Ex X PG (d + 1) 206 2 [some (.ref 256), some (.int (J x1))] [] h Q := by
  refine wpx_ok (cut := [2]) 12 d 206 2 _ _ _ _ ?_
  show hs h 256 = (0, 11) ∧ (((hF h 256 16) ≤ (J x1) → (J 0 = J 0 ∨ J 0 = J 1) ∧ Q (some (.int (J 0))) h) ∧ (¬ ((hF h 256 16) ≤ (J x1)) → hs h 256 = (0, 11) ∧ ∃ q4, hR h 256 15 = some q4 ∧ (hs h q4).1 = 1 ∧ ix (J x1) (hs h q4).2 ∧ ((¬ (hI h q4 (Int32.toNatClampNeg (J x1))) = (J 91) → Ex X PG (d + 1) 206 2 [some (.ref 256), some (.int ((J x1) + (J 1)))] [] h Q) ∧ (¬ (¬ (hI h q4 (Int32.toNatClampNeg (J x1))) = (J 91)) → (J 1 = J 0 ∨ J 1 = J 1) ∧ Q (some (.int (J 1))) h))))
  try simp only [aI_wAL, fI_wAL, aL_wA, aL_wF, aI_wA_ne, aI_wF_ne, fI_wA_ne, fI_wF_ne, fI_wF_nk, aL_wAL_ne, J_sameA, J_sameF, aL_same, Nat.add_left_cancel_iff, Nat.add_eq_left, Nat.left_eq_add, not_false_eq_true, Nat.reduceEqDiff, Nat.reduceAdd, J_add, J_sub, J_mul, J_neg, J_and, J_or, J_xor, J_shl, J_shr, J_div, J_i2b, J_i2l, J_l2i, J_lcm, J_max, J_min, J_nab, J_nao, rdA, rdF, rdL, wA_fold, wF_fold, wL_fold, wC_fold]
  refine ⟨(ls256 C_h), ?_⟩
  obtain ⟨k3, w⟩ := w
  refine ⟨fun c1 => ?_, fun c1 => ?_⟩
  · have t2 : fI h 256 16 ≤ x1 := ((Jle (rg_toInt _) k3).mp c1)
    replace w := w.1 t2
    exact ⟨(Or.inl (by trivial)), w⟩
  · have t2 : ¬ fI h 256 16 ≤ x1 := (fun e => c1 ((Jle (rg_toInt _) k3).mpr e))
    replace w := w.2 t2
    refine ⟨(ls256 C_h), _, (lr256_15 C_h), ?_⟩
    obtain ⟨k5, w⟩ := w
    refine ⟨congrArg Prod.fst (ls263 C_h), ixs (ls263 C_h) k5 (by decide), ?_⟩
    refine ⟨fun c6 => ?_, fun c6 => ?_⟩
    · have t7 : ¬ aI h 263 x1 = 91 := (fun e => c6 ((Jeq (rg_toInt _) (by decide)).mpr e))
      replace w := w.1 t7
      exact w
    · have t7 : aI h 263 x1 = 91 := ((Jeq (rg_toInt _) (by decide)).mp (Classical.byContradiction c6))
      replace w := w.2 t7
      exact ⟨(Or.inr (by trivial)), w⟩
theorem m206 {X : Cst} {d : Nat} {s : List Int} {h : AH} {Q : Post} (C : Lay h) (hd : 1 ≤ d) (S : StR h s) (hs' : s.length ≤ 400) (k1 : (91 : Int) ∈ s → Q (some (.int (J 1))) h) (k0 : ¬ (91 : Int) ∈ s → Q (some (.int (J 0))) h) : Ex X PG d 206 0 [some (.ref 256), none] [] h Q := by
  obtain ⟨d, rfl⟩ : ∃ e, d = e + 1 := ⟨d - 1, by omega⟩
  have m := StA_91 s S.2.2
  have lp : ∀ (z : Nat) (i : Int), s.length - i = z → 0 ≤ i → i ≤ s.length → (∀ q : Int, 0 ≤ q → q < i → ¬ aI h 263 q = 91) → Ex X PG (d + 1) 206 2 [some (.ref 256), some (.int (J i))] [] h Q := by
    intro z
    induction z with
    | zero =>
      intro i ez i0 i1 n
      refine r206_2 C ?_
      rw [S.1]
      refine ⟨by omega, fun _ => k0 (fun z => ?_), fun c => absurd (by omega) c⟩
      obtain ⟨q, hq, e⟩ := m.mp z
      exact n q hq.1 (by omega) e
    | succ z ih =>
      intro i ez i0 i1 n
      refine r206_2 C ?_
      rw [S.1]
      refine ⟨by omega, fun c => absurd c (by omega), fun _ => ⟨by omega, fun c => ?_, fun c => k1 (m.mpr ⟨i, by omega, c⟩)⟩⟩
      refine ih (i + 1) (by omega) (by omega) (by omega) (fun q q0 q1 => ?_)
      by_cases e : q = i
      · rw [e]; exact c
      · exact n q q0 (by omega)
  exact r206_0 C (lp s.length 0 (by omega) (by omega) (by omega) (fun q q0 q1 => by omega))
def FS (h : AH) (tp : Int → Int) (L j p : Int) (c : Cd) (t : Nat) (s : List Int) : Prop := RP h tp L j p c t ∧ StR h s ∧ OkS s ∧ (c.length : Int) + pnd s ≤ j ∧ (s.length : Int) ≤ j
-- OutwardDoorsModel.opens(I)Z at 0
set_option maxRecDepth 20000 in
set_option maxHeartbeats 4000000 in
theorem r201_0 {X : Cst} {d : Nat} {x1 : Int} {h : AH} {Q : Post} (C_h : Lay h)
  (w : ((¬ fI h 256 13 = 10 → (0 ≤ fI h 256 16 ∧ fI h 256 16 < 400) ∧ Q (some (.int (J 1))) (wF (wA (wF h 256 13 ((fI h 256 13) + 1)) 263 (fI h 256 16) x1) 256 16 ((fI h 256 16) + 1))) ∧ (fI h 256 13 = 10 → Ex X PG d 179 0 [some (.ref 256), some (.int (J 2)), some (.int (J (fI h 256 8)))] [] h (fun v5 h6 => ∃ r7 : Int, (-2147483648 ≤ r7 ∧ r7 < 2147483648) ∧ v5 = some (.int (J r7)) ∧ SH h h6 ∧ (r7 = 0 ∨ r7 = 1) ∧ Q (some (.int (J r7))) h6)))) :
    Ex X PG (d + 1) 201 0 [some (.ref 256), some (.int (J x1))] [] h Q := by
  refine wpx_ok (cut := []) 24 d 201 0 _ _ _ _ ?_
  show hs h 256 = (0, 11) ∧ ((¬ (hF h 256 13) = (J 10) → hs h 256 = (0, 11) ∧ hs h 256 = (0, 11) ∧ hs (wG h 256 13 ((hF h 256 13) + (J 1))) 256 = (0, 11) ∧ ∃ q3, hR (wG h 256 13 ((hF h 256 13) + (J 1))) 256 15 = some q3 ∧ hs (wG h 256 13 ((hF h 256 13) + (J 1))) 256 = (0, 11) ∧ (hs (wG h 256 13 ((hF h 256 13) + (J 1))) q3).1 = 1 ∧ ix (hF (wG h 256 13 ((hF h 256 13) + (J 1))) 256 16) (hs (wG h 256 13 ((hF h 256 13) + (J 1))) q3).2 ∧ hs (wI (wG h 256 13 ((hF h 256 13) + (J 1))) q3 (Int32.toNatClampNeg (hF (wG h 256 13 ((hF h 256 13) + (J 1))) 256 16)) (J x1)) 256 = (0, 11) ∧ hs (wI (wG h 256 13 ((hF h 256 13) + (J 1))) q3 (Int32.toNatClampNeg (hF (wG h 256 13 ((hF h 256 13) + (J 1))) 256 16)) (J x1)) 256 = (0, 11) ∧ (J 1 = J 0 ∨ J 1 = J 1) ∧ Q (some (.int (J 1))) (wG (wI (wG h 256 13 ((hF h 256 13) + (J 1))) q3 (Int32.toNatClampNeg (hF (wG h 256 13 ((hF h 256 13) + (J 1))) 256 16)) (J x1)) 256 16 ((hF (wI (wG h 256 13 ((hF h 256 13) + (J 1))) q3 (Int32.toNatClampNeg (hF (wG h 256 13 ((hF h 256 13) + (J 1))) 256 16)) (J x1)) 256 16) + (J 1)))) ∧ (¬ (¬ (hF h 256 13) = (J 10)) → hs h 256 = (0, 11) ∧ hs h 256 = (0, 11) ∧ Ex X PG d 179 0 [some (.ref 256), some (.int (J 2)), some (.int (hF h 256 8))] [] h (fun v5 h6 => ∃ r7, v5 = some (.int r7) ∧ (r7 = J 0 ∨ r7 = J 1) ∧ Q (some (.int r7)) h6)))
  try simp only [aI_wAL, fI_wAL, aL_wA, aL_wF, aI_wA_ne, aI_wF_ne, fI_wA_ne, fI_wF_ne, fI_wF_nk, aL_wAL_ne, J_sameA, J_sameF, aL_same, Nat.add_left_cancel_iff, Nat.add_eq_left, Nat.left_eq_add, not_false_eq_true, Nat.reduceEqDiff, Nat.reduceAdd, J_add, J_sub, J_mul, J_neg, J_and, J_or, J_xor, J_shl, J_shr, J_div, J_i2b, J_i2l, J_l2i, J_lcm, J_max, J_min, J_nab, J_nao, rdA, rdF, rdL, wA_fold, wF_fold, wL_fold, wC_fold]
  refine ⟨(ls256 C_h), ?_⟩
  refine ⟨fun c1 => ?_, fun c1 => ?_⟩
  · have t2 : ¬ fI h 256 13 = 10 := (fun e => c1 ((Jeq (rg_toInt _) (by decide)).mpr e))
    replace w := w.1 t2
    refine ⟨(ls256 C_h), ?_⟩
    refine ⟨(ls256 C_h), ?_⟩
    refine ⟨(ls256 C_h), _, (lr256_15 C_h), ?_⟩
    refine ⟨(ls256 C_h), ?_⟩
    obtain ⟨k4, w⟩ := w
    refine ⟨congrArg Prod.fst (ls263 C_h), ixs (ls263 C_h) k4 (by decide), ?_⟩
    refine ⟨(ls256 C_h), ?_⟩
    refine ⟨(ls256 C_h), ?_⟩
    exact ⟨(Or.inr (by trivial)), w⟩
  · have t2 : fI h 256 13 = 10 := ((Jeq (rg_toInt _) (by decide)).mp (Classical.byContradiction c1))
    replace w := w.2 t2
    refine ⟨(ls256 C_h), ?_⟩
    refine ⟨(ls256 C_h), ?_⟩
    refine Ex.mono w (Nat.le_refl _) ?_
    rintro v5 h6 ⟨r7, gr7, rfl, s9, w⟩
    refine ⟨_, rfl, ?_⟩
    have C_h6 := Lay_SH s9 C_h
    try simp only [aI_wAL, fI_wAL, aL_wA, aL_wF, aI_wA_ne, aI_wF_ne, fI_wA_ne, fI_wF_ne, fI_wF_nk, aL_wAL_ne, J_sameA, J_sameF, aL_same, Nat.add_left_cancel_iff, Nat.add_eq_left, Nat.left_eq_add, not_false_eq_true, Nat.reduceEqDiff, Nat.reduceAdd, J_add, J_sub, J_mul, J_neg, J_and, J_or, J_xor, J_shl, J_shr, J_div, J_i2b, J_i2l, J_l2i, J_lcm, J_max, J_min, J_nab, J_nao, rdA, rdF, rdL, wA_fold, wF_fold, wL_fold, wC_fold]
    obtain ⟨k8, w⟩ := w
    exact ⟨(k8.imp (congrArg J) (congrArg J)), w⟩
/-- opened, at the token j that is still to be passed over -/
theorem m201 {X : Cst} {d t : Nat} {L j p x : Int} {tp : Int → Int} {c : Cd} {s : List Int} {h : AH} {Q : Post} (C : Lay h) (hd : 2 ≤ d) (ht : t < 6) (S : FS h tp L j p c t s) (lt : j < L) (e8 : fI h 256 8 = j) (hx : x = 11 ∨ x = 91)
    (k1 : ¬ dpt s = 10 → ∀ h', Fr (TRt t) h h' → RP h' tp L j p c t → StR h' (x :: s) → fI h' 256 8 = j → Q (some (.int (J 1))) h') (k0 : dpt s = 10 → Q (some (.int (J 0))) (wF h 256 9 (1 + 8 * j + 2))) : Ex X PG d 201 0 [some (.ref 256), some (.int (J x))] [] h Q := by
  obtain ⟨d, rfl⟩ : ∃ e, d = e + 1 := ⟨d - 1, by omega⟩
  obtain ⟨R, S, O, hc, hs'⟩ := S
  have kj := R.1.j
  have dp := dpt_b s
  have pb := pnd_b s
  refine r201_0 C ?_
  rw [S.1, S.2.1, e8]
  refine ⟨fun n => ⟨by omega, ?_⟩, fun e => m179 C (by omega) R.1.2.2.2.2 ⟨0, by omega, rfl, SH.rf.wF, Or.inl rfl, k0 e⟩⟩
  have F : Fr TOs h (wF (wA (wF h 256 13 (dpt s + 1)) 263 s.length x) 256 16 (s.length + 1)) := ((Fr.rf.wF (by unfold TOs; omega)).wA (Or.inr rfl)).wF (by unfold TOs; omega)
  refine k1 n _ (F.mo (fun _ _ => TOs_t)) (R.os ht (by omega) F) ⟨?_, ?_, ?_, ?_⟩ ?_
  · rw [fI_wF_eq (by omega), List.length_cons]; omega
  · rw [fI_wF_nk (by decide), fI_wA_ne (by decide), fI_wF_eq (by omega)]
    show dpt s + 1 = (if x = 11 ∨ x = 91 then 1 else 0) + dpt s
    rw [if_pos hx]; omega
  · rw [aI_wF_ne (by decide), aI_wA (by omega), uu_eq]
  · refine StA_cg s (fun i i0 i1 => ?_) S.2.2
    rw [aI_wF_ne (by decide), aI_wA (by omega), uu_ne (by omega) (by omega) (by omega), aI_wF_ne (by decide)]
  · rw [fI_wF_nk (by decide), fI_wA_ne (by decide), fI_wF_nk (by decide)]; exact e8
