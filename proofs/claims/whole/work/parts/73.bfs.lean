/-! THE REFERENCE: the fewest passings, by a queue. -/
/-- who goes out by which door, who comes in (-1: nobody); at the door w one may come in alone -/
def Lbl (S : Int → Int) (t : Prop) (m : Nat) (w : Int) (f : Int → Int) (p d q : Int) (g : Int → Int) : Prop :=
  (0 ≤ d ∧ d < S 1) ∧ opn S t d ∧ (0 ≤ p ∧ p < m) ∧ ((f p = nr S d ∧ ((q = -1 ∧ g = fu f p (fr S d)) ∨ ((0 ≤ q ∧ q < m) ∧ ¬ q = p ∧ f q = fr S d ∧ g = fu (fu f p (fr S d)) q (nr S d)))) ∨ (d = w ∧ q = p ∧ f p = fr S d ∧ g = fu f p (nr S d)))
def Edg (S : Int → Int) (t : Prop) (m : Nat) (w : Int) (f g : Int → Int) : Prop := ∃ p d q, Lbl S t m w f p d q g
/-- G is reached by k passings -/
def RK (E : (Int → Int) → (Int → Int) → Prop) (G : (Int → Int) → Prop) : Nat → (Int → Int) → Prop
  | 0, f => G f
  | k + 1, f => ∃ g, E f g ∧ RK E G k g
def IsD (E : (Int → Int) → (Int → Int) → Prop) (G : (Int → Int) → Prop) (f : Int → Int) (v : Int) : Prop := (v = -1 ∧ ∀ j, ¬ RK E G j f) ∨ (0 ≤ v ∧ RK E G v.toNat f ∧ ∀ j : Nat, RK E G j f → v ≤ j)
theorem IsD.uniq {E : (Int → Int) → (Int → Int) → Prop} {G : (Int → Int) → Prop} {f : Int → Int} {v u : Int} (x : IsD E G f v) (y : IsD E G f u) : v = u := by
  rcases x with ⟨a, b⟩ | ⟨a, b, c⟩
  · rcases y with ⟨a', b'⟩ | ⟨a', b', c'⟩
    · omega
    · exact absurd b' (b _)
  · rcases y with ⟨a', b'⟩ | ⟨a', b', c'⟩
    · exact absurd b (b' _)
    · have := c _ b'
      have := c' _ b
      omega
theorem dr_ok {N : Int} {S : Int → Int} (W : WF N S) {d : Int} (hd : 0 ≤ d ∧ d < S 1) : (0 ≤ nr S d ∧ nr S d < S 0) ∧ (0 ≤ fr S d ∧ fr S d < S 0) := by
  have := W.2.2.2.1 d hd.1 hd.2
  omega
theorem Lbl_K {N : Int} {S : Int → Int} (W : WF N S) {t : Prop} {m : Nat} {w : Int} {f g : Int → Int} {p d q : Int} (x : Lbl S t m w f p d q g) (k : Kf m (S 0) f) : Kf m (S 0) g := by
  obtain ⟨hd, ho, hp, hc⟩ := x
  have dk := dr_ok W hd
  rcases hc with ⟨e, ⟨_, rfl⟩ | ⟨hq, _, _, rfl⟩⟩ | ⟨_, _, _, rfl⟩
  · exact k.fu hp dk.2
  · exact (k.fu hp dk.2).fu hq dk.1
  · exact k.fu hp dk.1
theorem Lbl_Kb {N : Int} {S : Int → Int} (W : WF N S) {t : Prop} {m : Nat} {w : Int} {f g : Int → Int} {p d q : Int} (x : Lbl S t m w f p d q g) (k : Kf m (S 0) g) : Kf m (S 0) f := by
  obtain ⟨hd, ho, hp, hc⟩ := x
  have dk := dr_ok W hd
  have key : ∀ (p r : Int), (0 ≤ p ∧ p < m) → Kf m (S 0) (fu f p r) → (0 ≤ f p ∧ f p < S 0) → Kf m (S 0) f := by
    intro p r hp k hf
    have := k.fu hp hf
    rw [fu_fu, fu_self rfl] at this
    exact this
  rcases hc with ⟨e, ⟨_, rfl⟩ | ⟨hq, ne, eq, rfl⟩⟩ | ⟨_, _, e, rfl⟩
  · exact key p _ hp k (by omega)
  · have k1 : Kf m (S 0) (fu f p (fr S d)) := by
      have := k.fu hq dk.2
      rw [fu_fu, fu_self (by rw [fu_ne ne]; exact eq)] at this
      exact this
    exact key p _ hp k1 (by omega)
  · exact key p _ hp k (by omega)
/-- the passings that end in f, told from f -/
def PB (S : Int → Int) (m : Nat) (f : Int → Int) (d p q : Int) (g : Int → Int) : Prop := f p = fr S d ∧ ((q = -1 ∧ g = fu f p (nr S d)) ∨ ((0 ≤ q ∧ q < m) ∧ ¬ q = p ∧ f q = nr S d ∧ g = fu (fu f p (nr S d)) q (fr S d)))
theorem Edg_back {S : Int → Int} {t : Prop} {m : Nat} {w : Int} {f g : Int → Int} : Edg S t m w g f ↔ ∃ d, (0 ≤ d ∧ d < S 1) ∧ opn S t d ∧ ((∃ p q : Int, (0 ≤ p ∧ p < m) ∧ PB S m f d p q g) ∨ (d = w ∧ ∃ q : Int, (0 ≤ q ∧ q < m) ∧ f q = nr S d ∧ g = fu f q (fr S d))) := by
  constructor
  · rintro ⟨p, d, q, hd, ho, hp, hc⟩
    refine ⟨d, hd, ho, ?_⟩
    rcases hc with ⟨e, ⟨rfl, rfl⟩ | ⟨hq, ne, eq, rfl⟩⟩ | ⟨rfl, rfl, e, rfl⟩
    · exact Or.inl ⟨p, -1, hp, fu_eq _ _ _, Or.inl ⟨rfl, by rw [fu_fu, fu_self e]⟩⟩
    · refine Or.inl ⟨p, q, hp, by rw [fu_ne (fun z => ne z.symm), fu_eq], Or.inr ⟨hq, ne, fu_eq _ _ _, ?_⟩⟩
      rw [fu_comm (p := q) (q := p) ne, fu_fu, fu_fu, fu_comm (p := p) (q := q) (fun z => ne z.symm), fu_self eq, fu_self e]
    · exact Or.inr ⟨rfl, q, hp, fu_eq _ _ _, by rw [fu_fu, fu_self e]⟩
  · rintro ⟨d, hd, ho, ⟨p, q, hp, e, ⟨rfl, rfl⟩ | ⟨hq, ne, eq, rfl⟩⟩ | ⟨rfl, q, hq, e, rfl⟩⟩
    · exact ⟨p, d, -1, hd, ho, hp, Or.inl ⟨fu_eq _ _ _, Or.inl ⟨rfl, by rw [fu_fu, fu_self e]⟩⟩⟩
    · refine ⟨p, d, q, hd, ho, hp, Or.inl ⟨by rw [fu_ne (fun z => ne z.symm), fu_eq], Or.inr ⟨hq, ne, fu_eq _ _ _, ?_⟩⟩⟩
      rw [fu_comm (p := q) (q := p) ne, fu_fu, fu_fu, fu_comm (p := p) (q := q) (fun z => ne z.symm), fu_self eq, fu_self e]
    · exact ⟨q, d, q, hd, ho, hq, Or.inr ⟨rfl, rfl, fu_eq _ _ _, by rw [fu_fu, fu_self e]⟩⟩
/-- the queue and what it has reached, by v passings at the most -/
def BQ (h : AH) (N v : Int) : Prop :=
  (fI h 256 31 = cnt (fun x => 0 ≤ aI h 272 x) N) ∧ (∀ j, 0 ≤ j → j < fI h 256 31 → (0 ≤ aI h 273 j ∧ aI h 273 j < N) ∧ 0 ≤ aI h 272 (aI h 273 j) ∧ aI h 272 (aI h 273 j) ≤ v) ∧
  (∀ i j, 0 ≤ i → i ≤ j → j < fI h 256 31 → aI h 272 (aI h 273 i) ≤ aI h 272 (aI h 273 j)) ∧ (∀ x, 0 ≤ x → x < N → 0 ≤ aI h 272 x → ∃ j, (0 ≤ j ∧ j < fI h 256 31) ∧ aI h 273 j = x) ∧ (∀ x, 0 ≤ x → x < N → -1 ≤ aI h 272 x)
def TB (c k : Nat) : Prop := c = 272 ∨ c = 273 ∨ (c = 256 ∧ k = 31)
/-- more was reached, by v passings -/
def BX (h h' : AH) (N v : Int) (R : Int → Prop) : Prop := Fr TB h h' ∧ fI h 256 31 ≤ fI h' 256 31 ∧ (∀ j, 0 ≤ j → j < fI h 256 31 → aI h' 273 j = aI h 273 j) ∧ (∀ x, 0 ≤ x → x < N → 0 ≤ aI h 272 x → aI h' 272 x = aI h 272 x) ∧ (∀ x, 0 ≤ x → x < N → aI h 272 x < 0 → 0 ≤ aI h' 272 x → aI h' 272 x = v ∧ R x)
theorem BX.rf {h : AH} {N v : Int} {R : Int → Prop} : BX h h N v R := ⟨Fr.rf, Int.le_refl _, fun _ _ _ => rfl, fun _ _ _ _ => rfl, fun x _ _ a b => absurd a (by omega)⟩
theorem BX.tr {h h' h'' : AH} {N v : Int} {R : Int → Prop} (a : BX h h' N v R) (b : BX h' h'' N v R) : BX h h'' N v R := by
  obtain ⟨a1, a2, a3, a4, a5⟩ := a
  obtain ⟨b1, b2, b3, b4, b5⟩ := b
  refine ⟨a1.tr b1, by omega, fun j j0 j1 => by rw [b3 j j0 (by omega), a3 j j0 j1], fun x x0 x1 x2 => ?_, fun x x0 x1 x2 x3 => ?_⟩
  · rw [b4 x x0 x1 (by rw [a4 x x0 x1 x2]; exact x2), a4 x x0 x1 x2]
  · by_cases c : 0 ≤ aI h' 272 x
    · have := a5 x x0 x1 x2 c
      rw [b4 x x0 x1 c]; exact this
    · exact b5 x x0 x1 (by omega) x3
theorem BX.mo {h h' : AH} {N v : Int} {R R' : Int → Prop} (a : BX h h' N v R) (r : ∀ x, R x → R' x) : BX h h' N v R' := ⟨a.1, a.2.1, a.2.2.1, a.2.2.2.1, fun x x0 x1 x2 x3 => ⟨(a.2.2.2.2 x x0 x1 x2 x3).1, r x (a.2.2.2.2 x x0 x1 x2 x3).2⟩⟩
theorem BX.pos {h h' : AH} {N v : Int} {R : Int → Prop} (a : BX h h' N v R) {x : Int} (hx : 0 ≤ x ∧ x < N) (p : 0 ≤ aI h 272 x) : 0 ≤ aI h' 272 x := by rw [a.2.2.2.1 x hx.1 hx.2 p]; exact p
theorem BQ.up {h : AH} {N v u : Int} (B : BQ h N v) (l : v ≤ u) : BQ h N u := ⟨B.1, fun j j0 j1 => by have := B.2.1 j j0 j1; omega, B.2.2.1, B.2.2.2.1, B.2.2.2.2⟩
-- OutwardDoorsModel.reaches(II)V at 0
set_option maxRecDepth 20000 in
set_option maxHeartbeats 4000000 in
theorem r261_0 {X : Cst} {d : Nat} {x1 : Int} {x2 : Int} {h : AH} {Q : Post} (C_h : Lay h)
  (w : (0 ≤ x1 ∧ x1 < 32768) ∧ ((aI h 272 x1 < 0 → (0 ≤ fI h 256 31 ∧ fI h 256 31 < 32768) ∧ Q none (wF (wA (wA h 272 x1 x2) 273 (fI h 256 31) x1) 256 31 ((fI h 256 31) + 1))) ∧ (¬ aI h 272 x1 < 0 → Q none h))) :
    Ex X PG (d + 1) 261 0 [some (.ref 256), some (.int (J x1)), some (.int (J x2))] [] h Q := by
  refine wpx_ok (cut := []) 23 d 261 0 _ _ _ _ ?_
  show hs h 256 = (0, 11) ∧ ∃ q1, hR h 256 29 = some q1 ∧ (hs h q1).1 = 1 ∧ ix (J x1) (hs h q1).2 ∧ (((hI h q1 (Int32.toNatClampNeg (J x1))) < (J 0) → hs h 256 = (0, 11) ∧ ∃ q5, hR h 256 29 = some q5 ∧ (hs h q5).1 = 1 ∧ ix (J x1) (hs h q5).2 ∧ hs (wI h q5 (Int32.toNatClampNeg (J x1)) (J x2)) 256 = (0, 11) ∧ ∃ q6, hR (wI h q5 (Int32.toNatClampNeg (J x1)) (J x2)) 256 30 = some q6 ∧ hs (wI h q5 (Int32.toNatClampNeg (J x1)) (J x2)) 256 = (0, 11) ∧ (hs (wI h q5 (Int32.toNatClampNeg (J x1)) (J x2)) q6).1 = 1 ∧ ix (hF (wI h q5 (Int32.toNatClampNeg (J x1)) (J x2)) 256 31) (hs (wI h q5 (Int32.toNatClampNeg (J x1)) (J x2)) q6).2 ∧ hs (wI (wI h q5 (Int32.toNatClampNeg (J x1)) (J x2)) q6 (Int32.toNatClampNeg (hF (wI h q5 (Int32.toNatClampNeg (J x1)) (J x2)) 256 31)) (J x1)) 256 = (0, 11) ∧ hs (wI (wI h q5 (Int32.toNatClampNeg (J x1)) (J x2)) q6 (Int32.toNatClampNeg (hF (wI h q5 (Int32.toNatClampNeg (J x1)) (J x2)) 256 31)) (J x1)) 256 = (0, 11) ∧ Q none (wG (wI (wI h q5 (Int32.toNatClampNeg (J x1)) (J x2)) q6 (Int32.toNatClampNeg (hF (wI h q5 (Int32.toNatClampNeg (J x1)) (J x2)) 256 31)) (J x1)) 256 31 ((hF (wI (wI h q5 (Int32.toNatClampNeg (J x1)) (J x2)) q6 (Int32.toNatClampNeg (hF (wI h q5 (Int32.toNatClampNeg (J x1)) (J x2)) 256 31)) (J x1)) 256 31) + (J 1)))) ∧ (¬ ((hI h q1 (Int32.toNatClampNeg (J x1))) < (J 0)) → Q none h))
  try simp only [aI_wAL, fI_wAL, aL_wA, aL_wF, aI_wA_ne, aI_wF_ne, fI_wA_ne, fI_wF_ne, fI_wF_nk, aL_wAL_ne, J_sameA, J_sameF, aL_same, Nat.add_left_cancel_iff, Nat.add_eq_left, Nat.left_eq_add, not_false_eq_true, Nat.reduceEqDiff, Nat.reduceAdd, J_add, J_sub, J_mul, J_neg, J_and, J_or, J_xor, J_shl, J_shr, J_div, J_i2b, J_i2l, J_l2i, J_lcm, J_max, J_min, J_nab, J_nao, rdA, rdF, rdL, wA_fold, wF_fold, wL_fold, wC_fold]
  refine ⟨(ls256 C_h), _, (lr256_29 C_h), ?_⟩
  obtain ⟨k2, w⟩ := w
  refine ⟨congrArg Prod.fst (ls272 C_h), ixs (ls272 C_h) k2 (by decide), ?_⟩
  refine ⟨fun c3 => ?_, fun c3 => ?_⟩
  · have t4 : aI h 272 x1 < 0 := ((Jlt (rg_toInt _) (by decide)).mp c3)
    replace w := w.1 t4
    refine ⟨(ls256 C_h), _, (lr256_29 C_h), ?_⟩
    refine ⟨congrArg Prod.fst (ls272 C_h), ixs (ls272 C_h) k2 (by decide), ?_⟩
    refine ⟨(ls256 C_h), _, (lr256_30 C_h), ?_⟩
    refine ⟨(ls256 C_h), ?_⟩
    obtain ⟨k7, w⟩ := w
    refine ⟨congrArg Prod.fst (ls273 C_h), ixs (ls273 C_h) k7 (by decide), ?_⟩
    refine ⟨(ls256 C_h), ?_⟩
    refine ⟨(ls256 C_h), ?_⟩
    exact w
  · have t4 : ¬ aI h 272 x1 < 0 := (fun e => c3 ((Jlt (rg_toInt _) (by decide)).mpr e))
    replace w := w.2 t4
    exact w
theorem m261 {X : Cst} {d : Nat} {x v N : Int} {h : AH} {Q : Post} (C : Lay h) (hd : 1 ≤ d) (B : BQ h N v) (hN : 0 ≤ N ∧ N ≤ 32768) (hx : 0 ≤ x ∧ x < N) (hv : 0 ≤ v ∧ v < 2147483648)
    (k : ∀ h', BQ h' N v → BX h h' N v (fun y => y = x) → 0 ≤ aI h' 272 x → Q none h') : Ex X PG d 261 0 [some (.ref 256), some (.int (J x)), some (.int (J v))] [] h Q := by
  obtain ⟨d, rfl⟩ : ∃ e, d = e + 1 := ⟨d - 1, by omega⟩
  obtain ⟨b1, b2, b3, b4, b5⟩ := B
  have cb := cnt_b (fun x => 0 ≤ aI h 272 x) hN.1
  refine r261_0 C ⟨by omega, fun c => ?_, fun c => k h ⟨b1, b2, b3, b4, b5⟩ BX.rf (by omega)⟩
  have ca := cnt_add (P := fun y => 0 ≤ aI h 272 y) (R := fun y => 0 ≤ aI h 272 y ∨ y = x) (p := x) (n := N) hx (fun q _ _ ne => ⟨fun z => Or.inl z, fun z => z.elim (fun y => y) (fun y => absurd y ne)⟩) (fun z => by omega) (Or.inr rfl)
  have cb2 := cnt_b (fun y => 0 ≤ aI h 272 y ∨ y = x) hN.1
  refine ⟨by omega, ?_⟩
  have e2 : aI (wF (wA (wA h 272 x v) 273 (fI h 256 31) x) 256 31 (fI h 256 31 + 1)) 272 = uu_ (aI h 272) x v := by rw [aI_wF_ne (by decide), aI_wA_ne (by decide), aI_wA (by omega)]
  have e3 : aI (wF (wA (wA h 272 x v) 273 (fI h 256 31) x) 256 31 (fI h 256 31 + 1)) 273 = uu_ (aI h 273) (fI h 256 31) x := by rw [aI_wF_ne (by decide), aI_wA (by omega), aI_wA_ne (by decide)]
  have e1 : fI (wF (wA (wA h 272 x v) 273 (fI h 256 31) x) 256 31 (fI h 256 31 + 1)) 256 31 = fI h 256 31 + 1 := fI_wF_eq (by omega)
  have old : ∀ j, 0 ≤ j → j < fI h 256 31 → uu_ (aI h 273) (fI h 256 31) x j = aI h 273 j ∧ uu_ (aI h 272) x v (aI h 273 j) = aI h 272 (aI h 273 j) := by
    intro j j0 j1
    have := b2 j j0 j1
    refine ⟨uu_ne (by omega) (by omega) (by omega), uu_ne (by omega) (by omega) (fun z => ?_)⟩
    rw [z] at this
    omega
  have F : Fr TB h (wF (wA (wA h 272 x v) 273 (fI h 256 31) x) 256 31 (fI h 256 31 + 1)) := (((Fr.rf (T := TB)).wA (by unfold TB; omega)).wA (by unfold TB; omega)).wF (by unfold TB; omega)
  refine k _ ⟨?_, ?_, ?_, ?_, ?_⟩ ⟨F, ?_, ?_, ?_, ?_⟩ ?_
  · rw [e1, e2, b1, ← ca]
    refine cnt_cong (fun q q0 q1 => ?_)
    by_cases z : q = x
    · subst z; rw [uu_eq]; exact ⟨fun _ => hv.1, fun _ => Or.inr rfl⟩
    · rw [uu_ne (by omega) (by omega) z]; exact ⟨fun y => y.elim (fun y => y) (fun y => absurd y z), fun y => Or.inl y⟩
  · intro j j0 j1
    rw [e1] at j1
    rw [e2, e3]
    by_cases z : j = fI h 256 31
    · subst z; rw [uu_eq, uu_eq]; omega
    · rw [(old j j0 (by omega)).1, (old j j0 (by omega)).2]; exact b2 j j0 (by omega)
  · intro i j i0 ij j1
    rw [e1] at j1
    rw [e2, e3]
    by_cases z : j = fI h 256 31
    · subst z
      rw [uu_eq, uu_eq]
      by_cases y : i = fI h 256 31
      · subst y; rw [uu_eq, uu_eq]; exact Int.le_refl _
      · rw [(old i i0 (by omega)).1, (old i i0 (by omega)).2]; exact (b2 i i0 (by omega)).2.2
    · rw [(old i i0 (by omega)).1, (old i i0 (by omega)).2, (old j (by omega) (by omega)).1, (old j (by omega) (by omega)).2]; exact b3 i j i0 ij (by omega)
  · intro y y0 y1 y2
    rw [e1, e3]
    rw [e2] at y2
    by_cases z : y = x
    · subst z; exact ⟨fI h 256 31, by omega, uu_eq _ _ _⟩
    · rw [uu_ne (by omega) (by omega) z] at y2
      obtain ⟨j, hj, ej⟩ := b4 y y0 y1 y2
      exact ⟨j, by omega, by rw [(old j hj.1 hj.2).1]; exact ej⟩
  · intro y y0 y1
    rw [e2]
    by_cases z : y = x
    · subst z; rw [uu_eq]; omega
    · rw [uu_ne (by omega) (by omega) z]; exact b5 y y0 y1
  · rw [e1]; omega
  · intro j j0 j1; rw [e3]; exact (old j j0 j1).1
  · intro y y0 y1 y2
    rw [e2, uu_ne (by omega) (by omega) (fun z => by rw [z] at y2; omega)]
  · intro y y0 y1 y2 y3
    rw [e2] at y3 ⊢
    by_cases z : y = x
    · subst z; rw [uu_eq]; exact ⟨rfl, rfl⟩
    · rw [uu_ne (by omega) (by omega) z] at y3; omega
  · rw [e2, uu_eq]; exact hv.1
-- OutwardDoorsModel.reachesBack(II)V at 0
set_option maxRecDepth 20000 in
set_option maxHeartbeats 4000000 in
theorem r263_0 {X : Cst} {d : Nat} {x1 : Int} {x2 : Int} {h : AH} {Q : Post} (C_h : Lay h)
  (w : (0 ≤ x1 ∧ x1 < 32768) ∧ Ex X PG (d + 1) 263 12 [some (.ref 256), some (.int (J x1)), some (.int (J x2)), some (.int (J ((aI h 272 x1) + 1))), some (.int (J 0)), none, none, none] [] h Q) :
    Ex X PG (d + 1) 263 0 [some (.ref 256), some (.int (J x1)), some (.int (J x2)), none, none, none, none, none] [] h Q := by
  refine wpx_ok (cut := [12, 38, 91, 157]) 9 d 263 0 _ _ _ _ ?_
  show hs h 256 = (0, 11) ∧ ∃ q1, hR h 256 29 = some q1 ∧ (hs h q1).1 = 1 ∧ ix (J x1) (hs h q1).2 ∧ Ex X PG (d + 1) 263 12 [some (.ref 256), some (.int (J x1)), some (.int (J x2)), some (.int ((hI h q1 (Int32.toNatClampNeg (J x1))) + (J 1))), some (.int (J 0)), none, none, none] [] h Q
  try simp only [aI_wAL, fI_wAL, aL_wA, aL_wF, aI_wA_ne, aI_wF_ne, fI_wA_ne, fI_wF_ne, fI_wF_nk, aL_wAL_ne, J_sameA, J_sameF, aL_same, Nat.add_left_cancel_iff, Nat.add_eq_left, Nat.left_eq_add, not_false_eq_true, Nat.reduceEqDiff, Nat.reduceAdd, J_add, J_sub, J_mul, J_neg, J_and, J_or, J_xor, J_shl, J_shr, J_div, J_i2b, J_i2l, J_l2i, J_lcm, J_max, J_min, J_nab, J_nao, rdA, rdF, rdL, wA_fold, wF_fold, wL_fold, wC_fold]
  refine ⟨(ls256 C_h), _, (lr256_29 C_h), ?_⟩
  obtain ⟨k2, w⟩ := w
  refine ⟨congrArg Prod.fst (ls272 C_h), ixs (ls272 C_h) k2 (by decide), ?_⟩
  exact w
-- OutwardDoorsModel.reachesBack(II)V at 12
set_option maxRecDepth 20000 in
set_option maxHeartbeats 4000000 in
theorem r263_12 {X : Cst} {d : Nat} {x1 : Int} {x2 : Int} {x3 : Int} {x4 : Int} {l5 : Option Value} {l6 : Option Value} {l7 : Option Value} {h : AH} {Q : Post} (C_h : Lay h) (hd : 2 ≤ d)
  (w : (-2147483648 ≤ x4 ∧ x4 < 2147483648) ∧ ((aI h 266 1 ≤ x4 → Q none h) ∧ (¬ aI h 266 1 ≤ x4 → (WF 999 (aI h 266)) ∧ (0 ≤ x4 ∧ x4 < aI h 266 1) ∧ (((opn (aI h 266) (nightP (aI h 266)) x4) → Ex X PG (d + 1) 263 38 [some (.ref 256), some (.int (J x1)), some (.int (J x2)), some (.int (J x3)), some (.int (J x4)), some (.int (J 0)), l6, l7] [] h Q) ∧ (¬ (opn (aI h 266) (nightP (aI h 266)) x4) → Ex X PG (d + 1) 263 12 [some (.ref 256), some (.int (J x1)), some (.int (J x2)), some (.int (J x3)), some (.int (J (x4 + 1))), l5, l6, l7] [] h Q))))) :
    Ex X PG (d + 1) 263 12 [some (.ref 256), some (.int (J x1)), some (.int (J x2)), some (.int (J x3)), some (.int (J x4)), l5, l6, l7] [] h Q := by
  refine wpx_ok (cut := [12, 38, 91, 157]) 13 d 263 12 _ _ _ _ ?_
  show hs h 256 = (0, 11) ∧ ∃ q1, hR h 256 20 = some q1 ∧ (hs h q1).1 = 1 ∧ ix (J 1) (hs h q1).2 ∧ (((hI h q1 (Int32.toNatClampNeg (J 1))) ≤ (J x4) → Q none h) ∧ (¬ ((hI h q1 (Int32.toNatClampNeg (J 1))) ≤ (J x4)) → hs h 256 = (0, 11) ∧ Ex X PG d 217 0 [some (.ref 256), some (.int (J x4))] [] h (fun v5 h6 => ∃ r7, v5 = some (.int r7) ∧ ((¬ r7 = (J 0) → Ex X PG (d + 1) 263 38 [some (.ref 256), some (.int (J x1)), some (.int (J x2)), some (.int (J x3)), some (.int (J x4)), some (.int (J 0)), l6, l7] [] h6 Q) ∧ (¬ (¬ r7 = (J 0)) → Ex X PG (d + 1) 263 12 [some (.ref 256), some (.int (J x1)), some (.int (J x2)), some (.int (J x3)), some (.int ((J x4) + (J 1))), l5, l6, l7] [] h6 Q)))))
  try simp only [aI_wAL, fI_wAL, aL_wA, aL_wF, aI_wA_ne, aI_wF_ne, fI_wA_ne, fI_wF_ne, fI_wF_nk, aL_wAL_ne, J_sameA, J_sameF, aL_same, Nat.add_left_cancel_iff, Nat.add_eq_left, Nat.left_eq_add, not_false_eq_true, Nat.reduceEqDiff, Nat.reduceAdd, J_add, J_sub, J_mul, J_neg, J_and, J_or, J_xor, J_shl, J_shr, J_div, J_i2b, J_i2l, J_l2i, J_lcm, J_max, J_min, J_nab, J_nao, rdA, rdF, rdL, wA_fold, wF_fold, wL_fold, wC_fold]
  refine ⟨(ls256 C_h), _, (lr256_20 C_h), ?_⟩
  refine ⟨congrArg Prod.fst (ls266 C_h), ixs (ls266 C_h) (by decide) (by decide), ?_⟩
  obtain ⟨k4, w⟩ := w
  refine ⟨fun c2 => ?_, fun c2 => ?_⟩
  · have t3 : aI h 266 1 ≤ x4 := ((Jle (rg_toInt _) k4).mp c2)
    replace w := w.1 t3
    exact w
  · have t3 : ¬ aI h 266 1 ≤ x4 := (fun e => c2 ((Jle (rg_toInt _) k4).mpr e))
    replace w := w.2 t3
    refine ⟨(ls256 C_h), ?_⟩
    obtain ⟨k8, w⟩ := w
    obtain ⟨k9, w⟩ := w
    refine m217 (h := h) (x := x4) C_h (by omega) k8 k9 ?_
    refine ⟨_, rfl, ?_⟩
    try simp only [aI_wAL, fI_wAL, aL_wA, aL_wF, aI_wA_ne, aI_wF_ne, fI_wA_ne, fI_wF_ne, fI_wF_nk, aL_wAL_ne, J_sameA, J_sameF, aL_same, Nat.add_left_cancel_iff, Nat.add_eq_left, Nat.left_eq_add, not_false_eq_true, Nat.reduceEqDiff, Nat.reduceAdd, J_add, J_sub, J_mul, J_neg, J_and, J_or, J_xor, J_shl, J_shr, J_div, J_i2b, J_i2l, J_l2i, J_lcm, J_max, J_min, J_nab, J_nao, rdA, rdF, rdL, wA_fold, wF_fold, wL_fold, wC_fold]
    refine ⟨fun c10 => ?_, fun c10 => ?_⟩
    · have t11 : (opn (aI h 266) (nightP (aI h 266)) x4) := (Classical.byContradiction fun n => c10 ((bI0 _).mpr n))
      replace w := w.1 t11
      exact w
    · have t11 : ¬ (opn (aI h 266) (nightP (aI h 266)) x4) := ((bI0 _).mp (Classical.byContradiction fun n => c10 n))
      replace w := w.2 t11
      exact w
-- OutwardDoorsModel.reachesBack(II)V at 38
set_option maxRecDepth 20000 in
set_option maxHeartbeats 4000000 in
theorem r263_38 {X : Cst} {d : Nat} {x1 : Int} {x2 : Int} {x3 : Int} {x4 : Int} {x5 : Int} {l6 : Option Value} {l7 : Option Value} {h : AH} {Q : Post} (C_h : Lay h) (hd : 3 ≤ d)
  (w : (-2147483648 ≤ x5 ∧ x5 < 2147483648) ∧ ((fI h 256 32 ≤ x5 → Ex X PG (d + 1) 263 157 [some (.ref 256), some (.int (J x1)), some (.int (J x2)), some (.int (J x3)), some (.int (J x4)), some (.int (J 0)), l6, l7] [] h Q) ∧ (¬ fI h 256 32 ≤ x5 → (0 ≤ x1 ∧ x1 < 32768) ∧ (0 ≤ x5 ∧ x5 ≤ 5) ∧ (0 < aI h 266 0 ∧ aI h 266 0 ≤ 8) ∧ (0 ≤ x4 ∧ x4 < 14) ∧ ((dgt (aI h 266 0) x1 x5 = fr (aI h 266) x4 → Ex X PG d 261 0 [some (.ref 256), some (.int (J (mvd (aI h 266 0) x1 x5 (nr (aI h 266) x4)))), some (.int (J x3))] [] h (fun v22 h23 => v22 = none ∧ SH h h23 ∧ Ex X PG (d + 1) 263 91 [some (.ref 256), some (.int (J x1)), some (.int (J x2)), some (.int (J x3)), some (.int (J x4)), some (.int (J x5)), some (.int (J (mvd (aI h 266 0) x1 x5 (nr (aI h 266) x4)))), some (.int (J 0))] [] h23 Q)) ∧ (¬ dgt (aI h 266 0) x1 x5 = fr (aI h 266) x4 → Ex X PG (d + 1) 263 38 [some (.ref 256), some (.int (J x1)), some (.int (J x2)), some (.int (J x3)), some (.int (J x4)), some (.int (J (x5 + 1))), l6, l7] [] h Q))))) :
    Ex X PG (d + 1) 263 38 [some (.ref 256), some (.int (J x1)), some (.int (J x2)), some (.int (J x3)), some (.int (J x4)), some (.int (J x5)), l6, l7] [] h Q := by
  refine wpx_ok (cut := [12, 38, 91, 157]) 26 d 263 38 _ _ _ _ ?_
  show hs h 256 = (0, 11) ∧ (((hF h 256 32) ≤ (J x5) → Ex X PG (d + 1) 263 157 [some (.ref 256), some (.int (J x1)), some (.int (J x2)), some (.int (J x3)), some (.int (J x4)), some (.int (J 0)), l6, l7] [] h Q) ∧ (¬ ((hF h 256 32) ≤ (J x5)) → hs h 256 = (0, 11) ∧ Ex X PG d 260 0 [some (.ref 256), some (.int (J x1)), some (.int (J x5))] [] h (fun v4 h5 => ∃ r6, v4 = some (.int r6) ∧ hs h5 256 = (0, 11) ∧ Ex X PG d 219 0 [some (.ref 256), some (.int (J x4))] [] h5 (fun v10 h11 => ∃ r12, v10 = some (.int r12) ∧ ((r6 = r12 → hs h11 256 = (0, 11) ∧ Ex X PG d 218 0 [some (.ref 256), some (.int (J x4))] [] h11 (fun v16 h17 => ∃ r18, v16 = some (.int r18) ∧ hs h17 256 = (0, 11) ∧ Ex X PG d 264 0 [some (.ref 256), some (.int (J x1)), some (.int (J x5)), some (.int r18)] [] h17 (fun v19 h20 => ∃ r21, v19 = some (.int r21) ∧ hs h20 256 = (0, 11) ∧ Ex X PG d 261 0 [some (.ref 256), some (.int r21), some (.int (J x3))] [] h20 (fun v22 h23 => v22 = none ∧ Ex X PG (d + 1) 263 91 [some (.ref 256), some (.int (J x1)), some (.int (J x2)), some (.int (J x3)), some (.int (J x4)), some (.int (J x5)), some (.int r21), some (.int (J 0))] [] h23 Q)))) ∧ (¬ (r6 = r12) → Ex X PG (d + 1) 263 38 [some (.ref 256), some (.int (J x1)), some (.int (J x2)), some (.int (J x3)), some (.int (J x4)), some (.int ((J x5) + (J 1))), l6, l7] [] h11 Q))))))
  try simp only [aI_wAL, fI_wAL, aL_wA, aL_wF, aI_wA_ne, aI_wF_ne, fI_wA_ne, fI_wF_ne, fI_wF_nk, aL_wAL_ne, J_sameA, J_sameF, aL_same, Nat.add_left_cancel_iff, Nat.add_eq_left, Nat.left_eq_add, not_false_eq_true, Nat.reduceEqDiff, Nat.reduceAdd, J_add, J_sub, J_mul, J_neg, J_and, J_or, J_xor, J_shl, J_shr, J_div, J_i2b, J_i2l, J_l2i, J_lcm, J_max, J_min, J_nab, J_nao, rdA, rdF, rdL, wA_fold, wF_fold, wL_fold, wC_fold]
  refine ⟨(ls256 C_h), ?_⟩
  obtain ⟨k3, w⟩ := w
  refine ⟨fun c1 => ?_, fun c1 => ?_⟩
  · have t2 : fI h 256 32 ≤ x5 := ((Jle (rg_toInt _) k3).mp c1)
    replace w := w.1 t2
    exact w
  · have t2 : ¬ fI h 256 32 ≤ x5 := (fun e => c1 ((Jle (rg_toInt _) k3).mpr e))
    replace w := w.2 t2
    refine ⟨(ls256 C_h), ?_⟩
    obtain ⟨k7, w⟩ := w
    obtain ⟨k8, w⟩ := w
    obtain ⟨k9, w⟩ := w
    refine m260 (h := h) (c := x1) (p := x5) C_h (by omega) k7 k8 k9 ?_
    refine ⟨_, rfl, ?_⟩
    try simp only [aI_wAL, fI_wAL, aL_wA, aL_wF, aI_wA_ne, aI_wF_ne, fI_wA_ne, fI_wF_ne, fI_wF_nk, aL_wAL_ne, J_sameA, J_sameF, aL_same, Nat.add_left_cancel_iff, Nat.add_eq_left, Nat.left_eq_add, not_false_eq_true, Nat.reduceEqDiff, Nat.reduceAdd, J_add, J_sub, J_mul, J_neg, J_and, J_or, J_xor, J_shl, J_shr, J_div, J_i2b, J_i2l, J_l2i, J_lcm, J_max, J_min, J_nab, J_nao, rdA, rdF, rdL, wA_fold, wF_fold, wL_fold, wC_fold]
    refine ⟨(ls256 C_h), ?_⟩
    obtain ⟨k13, w⟩ := w
    refine m219 (h := h) (x := x4) C_h (by omega) k13 ?_
    refine ⟨_, rfl, ?_⟩
    try simp only [aI_wAL, fI_wAL, aL_wA, aL_wF, aI_wA_ne, aI_wF_ne, fI_wA_ne, fI_wF_ne, fI_wF_nk, aL_wAL_ne, J_sameA, J_sameF, aL_same, Nat.add_left_cancel_iff, Nat.add_eq_left, Nat.left_eq_add, not_false_eq_true, Nat.reduceEqDiff, Nat.reduceAdd, J_add, J_sub, J_mul, J_neg, J_and, J_or, J_xor, J_shl, J_shr, J_div, J_i2b, J_i2l, J_l2i, J_lcm, J_max, J_min, J_nab, J_nao, rdA, rdF, rdL, wA_fold, wF_fold, wL_fold, wC_fold]
    refine ⟨fun c14 => ?_, fun c14 => ?_⟩
    · have t15 : dgt (aI h 266 0) x1 x5 = fr (aI h 266) x4 := ((Jeq (dgt_rg _ _ _) (aI_rg _ _ _)).mp c14)
      replace w := w.1 t15
      refine ⟨(ls256 C_h), ?_⟩
      refine m218 (h := h) (x := x4) C_h (by omega) k13 ?_
      refine ⟨_, rfl, ?_⟩
      try simp only [aI_wAL, fI_wAL, aL_wA, aL_wF, aI_wA_ne, aI_wF_ne, fI_wA_ne, fI_wF_ne, fI_wF_nk, aL_wAL_ne, J_sameA, J_sameF, aL_same, Nat.add_left_cancel_iff, Nat.add_eq_left, Nat.left_eq_add, not_false_eq_true, Nat.reduceEqDiff, Nat.reduceAdd, J_add, J_sub, J_mul, J_neg, J_and, J_or, J_xor, J_shl, J_shr, J_div, J_i2b, J_i2l, J_l2i, J_lcm, J_max, J_min, J_nab, J_nao, rdA, rdF, rdL, wA_fold, wF_fold, wL_fold, wC_fold]
      refine ⟨(ls256 C_h), ?_⟩
      refine m264 (h := h) (c := x1) (p := x5) (r := (nr (aI h 266) x4)) C_h (by omega) k7 k8 k9 ?_
      refine ⟨_, rfl, ?_⟩
      try simp only [aI_wAL, fI_wAL, aL_wA, aL_wF, aI_wA_ne, aI_wF_ne, fI_wA_ne, fI_wF_ne, fI_wF_nk, aL_wAL_ne, J_sameA, J_sameF, aL_same, Nat.add_left_cancel_iff, Nat.add_eq_left, Nat.left_eq_add, not_false_eq_true, Nat.reduceEqDiff, Nat.reduceAdd, J_add, J_sub, J_mul, J_neg, J_and, J_or, J_xor, J_shl, J_shr, J_div, J_i2b, J_i2l, J_l2i, J_lcm, J_max, J_min, J_nab, J_nao, rdA, rdF, rdL, wA_fold, wF_fold, wL_fold, wC_fold]
      refine ⟨(ls256 C_h), ?_⟩
      refine Ex.mono w (Nat.le_refl _) ?_
      rintro v22 h23 ⟨rfl, s24, w⟩
      refine ⟨rfl, ?_⟩
      have C_h23 := Lay_SH s24 C_h
      try simp only [aI_wAL, fI_wAL, aL_wA, aL_wF, aI_wA_ne, aI_wF_ne, fI_wA_ne, fI_wF_ne, fI_wF_nk, aL_wAL_ne, J_sameA, J_sameF, aL_same, Nat.add_left_cancel_iff, Nat.add_eq_left, Nat.left_eq_add, not_false_eq_true, Nat.reduceEqDiff, Nat.reduceAdd, J_add, J_sub, J_mul, J_neg, J_and, J_or, J_xor, J_shl, J_shr, J_div, J_i2b, J_i2l, J_l2i, J_lcm, J_max, J_min, J_nab, J_nao, rdA, rdF, rdL, wA_fold, wF_fold, wL_fold, wC_fold]
      exact w
    · have t15 : ¬ dgt (aI h 266 0) x1 x5 = fr (aI h 266) x4 := (fun e => c14 ((Jeq (dgt_rg _ _ _) (aI_rg _ _ _)).mpr e))
      replace w := w.2 t15
      exact w
-- OutwardDoorsModel.reachesBack(II)V at 91
set_option maxRecDepth 20000 in
set_option maxHeartbeats 4000000 in
theorem r263_91 {X : Cst} {d : Nat} {x1 : Int} {x2 : Int} {x3 : Int} {x4 : Int} {x5 : Int} {x6 : Int} {x7 : Int} {h : AH} {Q : Post} (C_h : Lay h) (hd : 3 ≤ d)
  (w : (-2147483648 ≤ x7 ∧ x7 < 2147483648) ∧ ((fI h 256 32 ≤ x7 → Ex X PG (d + 1) 263 38 [some (.ref 256), some (.int (J x1)), some (.int (J x2)), some (.int (J x3)), some (.int (J x4)), some (.int (J (x5 + 1))), some (.int (J x6)), some (.int (J x7))] [] h Q) ∧ (¬ fI h 256 32 ≤ x7 → (-2147483648 ≤ x5 ∧ x5 < 2147483648) ∧ ((x7 = x5 → Ex X PG (d + 1) 263 91 [some (.ref 256), some (.int (J x1)), some (.int (J x2)), some (.int (J x3)), some (.int (J x4)), some (.int (J x5)), some (.int (J x6)), some (.int (J (x7 + 1)))] [] h Q) ∧ (¬ x7 = x5 → (0 ≤ x1 ∧ x1 < 32768) ∧ (0 ≤ x7 ∧ x7 ≤ 5) ∧ (0 < aI h 266 0 ∧ aI h 266 0 ≤ 8) ∧ (0 ≤ x4 ∧ x4 < 14) ∧ ((¬ dgt (aI h 266 0) x1 x7 = nr (aI h 266) x4 → Ex X PG (d + 1) 263 91 [some (.ref 256), some (.int (J x1)), some (.int (J x2)), some (.int (J x3)), some (.int (J x4)), some (.int (J x5)), some (.int (J x6)), some (.int (J (x7 + 1)))] [] h Q) ∧ (dgt (aI h 266 0) x1 x7 = nr (aI h 266) x4 → (0 ≤ x6 ∧ x6 < 32768) ∧ Ex X PG d 261 0 [some (.ref 256), some (.int (J (mvd (aI h 266 0) x6 x7 (fr (aI h 266) x4)))), some (.int (J x3))] [] h (fun v26 h27 => v26 = none ∧ SH h h27 ∧ Ex X PG (d + 1) 263 91 [some (.ref 256), some (.int (J x1)), some (.int (J x2)), some (.int (J x3)), some (.int (J x4)), some (.int (J x5)), some (.int (J x6)), some (.int (J (x7 + 1)))] [] h27 Q)))))))) :
    Ex X PG (d + 1) 263 91 [some (.ref 256), some (.int (J x1)), some (.int (J x2)), some (.int (J x3)), some (.int (J x4)), some (.int (J x5)), some (.int (J x6)), some (.int (J x7))] [] h Q := by
  refine wpx_ok (cut := [12, 38, 91, 157]) 27 d 263 91 _ _ _ _ ?_
  show hs h 256 = (0, 11) ∧ (((hF h 256 32) ≤ (J x7) → Ex X PG (d + 1) 263 38 [some (.ref 256), some (.int (J x1)), some (.int (J x2)), some (.int (J x3)), some (.int (J x4)), some (.int ((J x5) + (J 1))), some (.int (J x6)), some (.int (J x7))] [] h Q) ∧ (¬ ((hF h 256 32) ≤ (J x7)) → (((J x7) = (J x5) → Ex X PG (d + 1) 263 91 [some (.ref 256), some (.int (J x1)), some (.int (J x2)), some (.int (J x3)), some (.int (J x4)), some (.int (J x5)), some (.int (J x6)), some (.int ((J x7) + (J 1)))] [] h Q) ∧ (¬ ((J x7) = (J x5)) → hs h 256 = (0, 11) ∧ Ex X PG d 260 0 [some (.ref 256), some (.int (J x1)), some (.int (J x7))] [] h (fun v7 h8 => ∃ r9, v7 = some (.int r9) ∧ hs h8 256 = (0, 11) ∧ Ex X PG d 218 0 [some (.ref 256), some (.int (J x4))] [] h8 (fun v13 h14 => ∃ r15, v13 = some (.int r15) ∧ ((¬ r9 = r15 → Ex X PG (d + 1) 263 91 [some (.ref 256), some (.int (J x1)), some (.int (J x2)), some (.int (J x3)), some (.int (J x4)), some (.int (J x5)), some (.int (J x6)), some (.int ((J x7) + (J 1)))] [] h14 Q) ∧ (¬ (¬ r9 = r15) → hs h14 256 = (0, 11) ∧ Ex X PG d 219 0 [some (.ref 256), some (.int (J x4))] [] h14 (fun v19 h20 => ∃ r21, v19 = some (.int r21) ∧ hs h20 256 = (0, 11) ∧ Ex X PG d 264 0 [some (.ref 256), some (.int (J x6)), some (.int (J x7)), some (.int r21)] [] h20 (fun v22 h23 => ∃ r24, v22 = some (.int r24) ∧ hs h23 256 = (0, 11) ∧ Ex X PG d 261 0 [some (.ref 256), some (.int r24), some (.int (J x3))] [] h23 (fun v26 h27 => v26 = none ∧ Ex X PG (d + 1) 263 91 [some (.ref 256), some (.int (J x1)), some (.int (J x2)), some (.int (J x3)), some (.int (J x4)), some (.int (J x5)), some (.int (J x6)), some (.int ((J x7) + (J 1)))] [] h27 Q)))))))))))
  try simp only [aI_wAL, fI_wAL, aL_wA, aL_wF, aI_wA_ne, aI_wF_ne, fI_wA_ne, fI_wF_ne, fI_wF_nk, aL_wAL_ne, J_sameA, J_sameF, aL_same, Nat.add_left_cancel_iff, Nat.add_eq_left, Nat.left_eq_add, not_false_eq_true, Nat.reduceEqDiff, Nat.reduceAdd, J_add, J_sub, J_mul, J_neg, J_and, J_or, J_xor, J_shl, J_shr, J_div, J_i2b, J_i2l, J_l2i, J_lcm, J_max, J_min, J_nab, J_nao, rdA, rdF, rdL, wA_fold, wF_fold, wL_fold, wC_fold]
  refine ⟨(ls256 C_h), ?_⟩
  obtain ⟨k3, w⟩ := w
  refine ⟨fun c1 => ?_, fun c1 => ?_⟩
  · have t2 : fI h 256 32 ≤ x7 := ((Jle (rg_toInt _) k3).mp c1)
    replace w := w.1 t2
    exact w
  · have t2 : ¬ fI h 256 32 ≤ x7 := (fun e => c1 ((Jle (rg_toInt _) k3).mpr e))
    replace w := w.2 t2
    obtain ⟨k6, w⟩ := w
    refine ⟨fun c4 => ?_, fun c4 => ?_⟩
    · have t5 : x7 = x5 := ((Jeq k3 k6).mp c4)
      replace w := w.1 t5
      exact w
    · have t5 : ¬ x7 = x5 := (fun e => c4 ((Jeq k3 k6).mpr e))
      replace w := w.2 t5
      refine ⟨(ls256 C_h), ?_⟩
      obtain ⟨k10, w⟩ := w
      obtain ⟨k11, w⟩ := w
      obtain ⟨k12, w⟩ := w
      refine m260 (h := h) (c := x1) (p := x7) C_h (by omega) k10 k11 k12 ?_
      refine ⟨_, rfl, ?_⟩
      try simp only [aI_wAL, fI_wAL, aL_wA, aL_wF, aI_wA_ne, aI_wF_ne, fI_wA_ne, fI_wF_ne, fI_wF_nk, aL_wAL_ne, J_sameA, J_sameF, aL_same, Nat.add_left_cancel_iff, Nat.add_eq_left, Nat.left_eq_add, not_false_eq_true, Nat.reduceEqDiff, Nat.reduceAdd, J_add, J_sub, J_mul, J_neg, J_and, J_or, J_xor, J_shl, J_shr, J_div, J_i2b, J_i2l, J_l2i, J_lcm, J_max, J_min, J_nab, J_nao, rdA, rdF, rdL, wA_fold, wF_fold, wL_fold, wC_fold]
      refine ⟨(ls256 C_h), ?_⟩
      obtain ⟨k16, w⟩ := w
      refine m218 (h := h) (x := x4) C_h (by omega) k16 ?_
      refine ⟨_, rfl, ?_⟩
      try simp only [aI_wAL, fI_wAL, aL_wA, aL_wF, aI_wA_ne, aI_wF_ne, fI_wA_ne, fI_wF_ne, fI_wF_nk, aL_wAL_ne, J_sameA, J_sameF, aL_same, Nat.add_left_cancel_iff, Nat.add_eq_left, Nat.left_eq_add, not_false_eq_true, Nat.reduceEqDiff, Nat.reduceAdd, J_add, J_sub, J_mul, J_neg, J_and, J_or, J_xor, J_shl, J_shr, J_div, J_i2b, J_i2l, J_l2i, J_lcm, J_max, J_min, J_nab, J_nao, rdA, rdF, rdL, wA_fold, wF_fold, wL_fold, wC_fold]
      refine ⟨fun c17 => ?_, fun c17 => ?_⟩
      · have t18 : ¬ dgt (aI h 266 0) x1 x7 = nr (aI h 266) x4 := (fun e => c17 ((Jeq (dgt_rg _ _ _) (aI_rg _ _ _)).mpr e))
        replace w := w.1 t18
        exact w
      · have t18 : dgt (aI h 266 0) x1 x7 = nr (aI h 266) x4 := ((Jeq (dgt_rg _ _ _) (aI_rg _ _ _)).mp (Classical.byContradiction c17))
        replace w := w.2 t18
        refine ⟨(ls256 C_h), ?_⟩
        refine m219 (h := h) (x := x4) C_h (by omega) k16 ?_
        refine ⟨_, rfl, ?_⟩
        try simp only [aI_wAL, fI_wAL, aL_wA, aL_wF, aI_wA_ne, aI_wF_ne, fI_wA_ne, fI_wF_ne, fI_wF_nk, aL_wAL_ne, J_sameA, J_sameF, aL_same, Nat.add_left_cancel_iff, Nat.add_eq_left, Nat.left_eq_add, not_false_eq_true, Nat.reduceEqDiff, Nat.reduceAdd, J_add, J_sub, J_mul, J_neg, J_and, J_or, J_xor, J_shl, J_shr, J_div, J_i2b, J_i2l, J_l2i, J_lcm, J_max, J_min, J_nab, J_nao, rdA, rdF, rdL, wA_fold, wF_fold, wL_fold, wC_fold]
        refine ⟨(ls256 C_h), ?_⟩
        obtain ⟨k25, w⟩ := w
        refine m264 (h := h) (c := x6) (p := x7) (r := (fr (aI h 266) x4)) C_h (by omega) k25 k11 k12 ?_
        refine ⟨_, rfl, ?_⟩
        try simp only [aI_wAL, fI_wAL, aL_wA, aL_wF, aI_wA_ne, aI_wF_ne, fI_wA_ne, fI_wF_ne, fI_wF_nk, aL_wAL_ne, J_sameA, J_sameF, aL_same, Nat.add_left_cancel_iff, Nat.add_eq_left, Nat.left_eq_add, not_false_eq_true, Nat.reduceEqDiff, Nat.reduceAdd, J_add, J_sub, J_mul, J_neg, J_and, J_or, J_xor, J_shl, J_shr, J_div, J_i2b, J_i2l, J_l2i, J_lcm, J_max, J_min, J_nab, J_nao, rdA, rdF, rdL, wA_fold, wF_fold, wL_fold, wC_fold]
        refine ⟨(ls256 C_h), ?_⟩
        refine Ex.mono w (Nat.le_refl _) ?_
        rintro v26 h27 ⟨rfl, s28, w⟩
        refine ⟨rfl, ?_⟩
        have C_h27 := Lay_SH s28 C_h
        try simp only [aI_wAL, fI_wAL, aL_wA, aL_wF, aI_wA_ne, aI_wF_ne, fI_wA_ne, fI_wF_ne, fI_wF_nk, aL_wAL_ne, J_sameA, J_sameF, aL_same, Nat.add_left_cancel_iff, Nat.add_eq_left, Nat.left_eq_add, not_false_eq_true, Nat.reduceEqDiff, Nat.reduceAdd, J_add, J_sub, J_mul, J_neg, J_and, J_or, J_xor, J_shl, J_shr, J_div, J_i2b, J_i2l, J_l2i, J_lcm, J_max, J_min, J_nab, J_nao, rdA, rdF, rdL, wA_fold, wF_fold, wL_fold, wC_fold]
        exact w
-- OutwardDoorsModel.reachesBack(II)V at 157
set_option maxRecDepth 20000 in
set_option maxHeartbeats 4000000 in
theorem r263_157 {X : Cst} {d : Nat} {x1 : Int} {x2 : Int} {x3 : Int} {x4 : Int} {x5 : Int} {l6 : Option Value} {l7 : Option Value} {h : AH} {Q : Post} (C_h : Lay h) (hd : 3 ≤ d)
  (w : (-2147483648 ≤ x5 ∧ x5 < 2147483648) ∧ ((fI h 256 32 ≤ x5 → Ex X PG (d + 1) 263 12 [some (.ref 256), some (.int (J x1)), some (.int (J x2)), some (.int (J x3)), some (.int (J (x4 + 1))), some (.int (J x5)), l6, l7] [] h Q) ∧ (¬ fI h 256 32 ≤ x5 → (-2147483648 ≤ x4 ∧ x4 < 2147483648) ∧ (-2147483648 ≤ x2 ∧ x2 < 2147483648) ∧ ((¬ x4 = x2 → Ex X PG (d + 1) 263 12 [some (.ref 256), some (.int (J x1)), some (.int (J x2)), some (.int (J x3)), some (.int (J (x4 + 1))), some (.int (J x5)), l6, l7] [] h Q) ∧ (x4 = x2 → (0 ≤ x1 ∧ x1 < 32768) ∧ (0 ≤ x5 ∧ x5 ≤ 5) ∧ (0 < aI h 266 0 ∧ aI h 266 0 ≤ 8) ∧ (0 ≤ x4 ∧ x4 < 14) ∧ ((¬ dgt (aI h 266 0) x1 x5 = nr (aI h 266) x4 → Ex X PG (d + 1) 263 157 [some (.ref 256), some (.int (J x1)), some (.int (J x2)), some (.int (J x3)), some (.int (J x4)), some (.int (J (x5 + 1))), l6, l7] [] h Q) ∧ (dgt (aI h 266 0) x1 x5 = nr (aI h 266) x4 → Ex X PG d 261 0 [some (.ref 256), some (.int (J (mvd (aI h 266 0) x1 x5 (fr (aI h 266) x4)))), some (.int (J x3))] [] h (fun v26 h27 => v26 = none ∧ SH h h27 ∧ Ex X PG (d + 1) 263 157 [some (.ref 256), some (.int (J x1)), some (.int (J x2)), some (.int (J x3)), some (.int (J x4)), some (.int (J (x5 + 1))), l6, l7] [] h27 Q)))))))) :
    Ex X PG (d + 1) 263 157 [some (.ref 256), some (.int (J x1)), some (.int (J x2)), some (.int (J x3)), some (.int (J x4)), some (.int (J x5)), l6, l7] [] h Q := by
  refine wpx_ok (cut := [12, 38, 91, 157]) 27 d 263 157 _ _ _ _ ?_
  show hs h 256 = (0, 11) ∧ (((hF h 256 32) ≤ (J x5) → Ex X PG (d + 1) 263 12 [some (.ref 256), some (.int (J x1)), some (.int (J x2)), some (.int (J x3)), some (.int ((J x4) + (J 1))), some (.int (J x5)), l6, l7] [] h Q) ∧ (¬ ((hF h 256 32) ≤ (J x5)) → ((¬ (J x4) = (J x2) → Ex X PG (d + 1) 263 12 [some (.ref 256), some (.int (J x1)), some (.int (J x2)), some (.int (J x3)), some (.int ((J x4) + (J 1))), some (.int (J x5)), l6, l7] [] h Q) ∧ (¬ (¬ (J x4) = (J x2)) → hs h 256 = (0, 11) ∧ Ex X PG d 260 0 [some (.ref 256), some (.int (J x1)), some (.int (J x5))] [] h (fun v8 h9 => ∃ r10, v8 = some (.int r10) ∧ hs h9 256 = (0, 11) ∧ Ex X PG d 218 0 [some (.ref 256), some (.int (J x4))] [] h9 (fun v14 h15 => ∃ r16, v14 = some (.int r16) ∧ ((¬ r10 = r16 → Ex X PG (d + 1) 263 157 [some (.ref 256), some (.int (J x1)), some (.int (J x2)), some (.int (J x3)), some (.int (J x4)), some (.int ((J x5) + (J 1))), l6, l7] [] h15 Q) ∧ (¬ (¬ r10 = r16) → hs h15 256 = (0, 11) ∧ Ex X PG d 219 0 [some (.ref 256), some (.int (J x4))] [] h15 (fun v20 h21 => ∃ r22, v20 = some (.int r22) ∧ hs h21 256 = (0, 11) ∧ Ex X PG d 264 0 [some (.ref 256), some (.int (J x1)), some (.int (J x5)), some (.int r22)] [] h21 (fun v23 h24 => ∃ r25, v23 = some (.int r25) ∧ hs h24 256 = (0, 11) ∧ Ex X PG d 261 0 [some (.ref 256), some (.int r25), some (.int (J x3))] [] h24 (fun v26 h27 => v26 = none ∧ Ex X PG (d + 1) 263 157 [some (.ref 256), some (.int (J x1)), some (.int (J x2)), some (.int (J x3)), some (.int (J x4)), some (.int ((J x5) + (J 1))), l6, l7] [] h27 Q)))))))))))
  try simp only [aI_wAL, fI_wAL, aL_wA, aL_wF, aI_wA_ne, aI_wF_ne, fI_wA_ne, fI_wF_ne, fI_wF_nk, aL_wAL_ne, J_sameA, J_sameF, aL_same, Nat.add_left_cancel_iff, Nat.add_eq_left, Nat.left_eq_add, not_false_eq_true, Nat.reduceEqDiff, Nat.reduceAdd, J_add, J_sub, J_mul, J_neg, J_and, J_or, J_xor, J_shl, J_shr, J_div, J_i2b, J_i2l, J_l2i, J_lcm, J_max, J_min, J_nab, J_nao, rdA, rdF, rdL, wA_fold, wF_fold, wL_fold, wC_fold]
  refine ⟨(ls256 C_h), ?_⟩
  obtain ⟨k3, w⟩ := w
  refine ⟨fun c1 => ?_, fun c1 => ?_⟩
  · have t2 : fI h 256 32 ≤ x5 := ((Jle (rg_toInt _) k3).mp c1)
    replace w := w.1 t2
    exact w
  · have t2 : ¬ fI h 256 32 ≤ x5 := (fun e => c1 ((Jle (rg_toInt _) k3).mpr e))
    replace w := w.2 t2
    obtain ⟨k6, w⟩ := w
    obtain ⟨k7, w⟩ := w
    refine ⟨fun c4 => ?_, fun c4 => ?_⟩
    · have t5 : ¬ x4 = x2 := (fun e => c4 ((Jeq k6 k7).mpr e))
      replace w := w.1 t5
      exact w
    · have t5 : x4 = x2 := ((Jeq k6 k7).mp (Classical.byContradiction c4))
      replace w := w.2 t5
      refine ⟨(ls256 C_h), ?_⟩
      obtain ⟨k11, w⟩ := w
      obtain ⟨k12, w⟩ := w
      obtain ⟨k13, w⟩ := w
      refine m260 (h := h) (c := x1) (p := x5) C_h (by omega) k11 k12 k13 ?_
      refine ⟨_, rfl, ?_⟩
      try simp only [aI_wAL, fI_wAL, aL_wA, aL_wF, aI_wA_ne, aI_wF_ne, fI_wA_ne, fI_wF_ne, fI_wF_nk, aL_wAL_ne, J_sameA, J_sameF, aL_same, Nat.add_left_cancel_iff, Nat.add_eq_left, Nat.left_eq_add, not_false_eq_true, Nat.reduceEqDiff, Nat.reduceAdd, J_add, J_sub, J_mul, J_neg, J_and, J_or, J_xor, J_shl, J_shr, J_div, J_i2b, J_i2l, J_l2i, J_lcm, J_max, J_min, J_nab, J_nao, rdA, rdF, rdL, wA_fold, wF_fold, wL_fold, wC_fold]
      refine ⟨(ls256 C_h), ?_⟩
      obtain ⟨k17, w⟩ := w
      refine m218 (h := h) (x := x4) C_h (by omega) k17 ?_
      refine ⟨_, rfl, ?_⟩
      try simp only [aI_wAL, fI_wAL, aL_wA, aL_wF, aI_wA_ne, aI_wF_ne, fI_wA_ne, fI_wF_ne, fI_wF_nk, aL_wAL_ne, J_sameA, J_sameF, aL_same, Nat.add_left_cancel_iff, Nat.add_eq_left, Nat.left_eq_add, not_false_eq_true, Nat.reduceEqDiff, Nat.reduceAdd, J_add, J_sub, J_mul, J_neg, J_and, J_or, J_xor, J_shl, J_shr, J_div, J_i2b, J_i2l, J_l2i, J_lcm, J_max, J_min, J_nab, J_nao, rdA, rdF, rdL, wA_fold, wF_fold, wL_fold, wC_fold]
      refine ⟨fun c18 => ?_, fun c18 => ?_⟩
      · have t19 : ¬ dgt (aI h 266 0) x1 x5 = nr (aI h 266) x4 := (fun e => c18 ((Jeq (dgt_rg _ _ _) (aI_rg _ _ _)).mpr e))
        replace w := w.1 t19
        exact w
      · have t19 : dgt (aI h 266 0) x1 x5 = nr (aI h 266) x4 := ((Jeq (dgt_rg _ _ _) (aI_rg _ _ _)).mp (Classical.byContradiction c18))
        replace w := w.2 t19
        refine ⟨(ls256 C_h), ?_⟩
        refine m219 (h := h) (x := x4) C_h (by omega) k17 ?_
        refine ⟨_, rfl, ?_⟩
        try simp only [aI_wAL, fI_wAL, aL_wA, aL_wF, aI_wA_ne, aI_wF_ne, fI_wA_ne, fI_wF_ne, fI_wF_nk, aL_wAL_ne, J_sameA, J_sameF, aL_same, Nat.add_left_cancel_iff, Nat.add_eq_left, Nat.left_eq_add, not_false_eq_true, Nat.reduceEqDiff, Nat.reduceAdd, J_add, J_sub, J_mul, J_neg, J_and, J_or, J_xor, J_shl, J_shr, J_div, J_i2b, J_i2l, J_l2i, J_lcm, J_max, J_min, J_nab, J_nao, rdA, rdF, rdL, wA_fold, wF_fold, wL_fold, wC_fold]
        refine ⟨(ls256 C_h), ?_⟩
        refine m264 (h := h) (c := x1) (p := x5) (r := (fr (aI h 266) x4)) C_h (by omega) k11 k12 k13 ?_
        refine ⟨_, rfl, ?_⟩
        try simp only [aI_wAL, fI_wAL, aL_wA, aL_wF, aI_wA_ne, aI_wF_ne, fI_wA_ne, fI_wF_ne, fI_wF_nk, aL_wAL_ne, J_sameA, J_sameF, aL_same, Nat.add_left_cancel_iff, Nat.add_eq_left, Nat.left_eq_add, not_false_eq_true, Nat.reduceEqDiff, Nat.reduceAdd, J_add, J_sub, J_mul, J_neg, J_and, J_or, J_xor, J_shl, J_shr, J_div, J_i2b, J_i2l, J_l2i, J_lcm, J_max, J_min, J_nab, J_nao, rdA, rdF, rdL, wA_fold, wF_fold, wL_fold, wC_fold]
        refine ⟨(ls256 C_h), ?_⟩
        refine Ex.mono w (Nat.le_refl _) ?_
        rintro v26 h27 ⟨rfl, s28, w⟩
        refine ⟨rfl, ?_⟩
        have C_h27 := Lay_SH s28 C_h
        try simp only [aI_wAL, fI_wAL, aL_wA, aL_wF, aI_wA_ne, aI_wF_ne, fI_wA_ne, fI_wF_ne, fI_wF_nk, aL_wAL_ne, J_sameA, J_sameF, aL_same, Nat.add_left_cancel_iff, Nat.add_eq_left, Nat.left_eq_add, not_false_eq_true, Nat.reduceEqDiff, Nat.reduceAdd, J_add, J_sub, J_mul, J_neg, J_and, J_or, J_xor, J_shl, J_shr, J_div, J_i2b, J_i2l, J_l2i, J_lcm, J_max, J_min, J_nab, J_nao, rdA, rdF, rdL, wA_fold, wF_fold, wL_fold, wC_fold]
        exact w
theorem m263 {X : Cst} {d m : Nat} {c w v M : Int} {f : Int → Int} {S : Int → Int} {h : AH} {Q : Post} (C : Lay h) (hd : 5 ≤ d) (eS : aI h 266 = S) (W : WF M S) (hM : M ≤ 999) (hn : 0 < S 0) (hm : m ≤ 5) (em : fI h 256 32 = m) (kf : Kf m (S 0) f) (ec : c = enc (S 0) m f) (B : BQ h (S 0 ^ m) v) (ev : aI h 272 c + 1 = v) (hv : 0 ≤ v ∧ v < 2147483648) (gw : -2147483648 ≤ w ∧ w < 2147483648)
    (k : ∀ h', BQ h' (S 0 ^ m) v → BX h h' (S 0 ^ m) v (fun x => ∃ g, Kf m (S 0) g ∧ x = enc (S 0) m g ∧ Edg S (nightP S) m w g f) → (∀ g, Edg S (nightP S) m w g f → 0 ≤ aI h' 272 (enc (S 0) m g)) → Q none h') : Ex X PG d 263 0 [some (.ref 256), some (.int (J c)), some (.int (J w)), none, none, none, none, none] [] h Q := by
  obtain ⟨d, rfl⟩ : ∃ e, d = e + 1 := ⟨d - 1, by omega⟩
  have b := W.1
  unfold WFb at b
  have hn8 : 0 < S 0 ∧ S 0 ≤ 8 := by omega
  have pw := pw_32k hn8.1 hn8.2 hm
  have eb : ∀ g, Kf m (S 0) g → 0 ≤ enc (S 0) m g ∧ enc (S 0) m g < S 0 ^ m := fun g kg => enc_b hn m g kg.1
  have cb := eb f kf
  rw [← ec] at cb
  have W9 : WF 999 S := W.up hM
  have ks : ∀ h', Fr TB h h' → aI h' 266 = S ∧ fI h' 256 32 = m := fun h' F => ⟨by rw [F.a 266 (fun k z => by unfold TB at z; omega)]; exact eS, by rw [F.f 256 32 (fun z => by unfold TB at z; omega)]; exact em⟩
  have dg : ∀ g, Kf m (S 0) g → ∀ p : Int, 0 ≤ p → p < m → dgt (S 0) (enc (S 0) m g) p = g p := fun g kg p p0 p1 => dgt_enc hn8 kg ⟨p0, p1⟩
  have dgc : ∀ p : Int, 0 ≤ p → p < m → dgt (S 0) c p = f p := fun p p0 p1 => by rw [ec]; exact dg f kf p p0 p1
  have mv : ∀ g, Kf m (S 0) g → ∀ p r : Int, 0 ≤ p → p < m → mvd (S 0) (enc (S 0) m g) p r = enc (S 0) m (fu g p r) := fun g kg p r p0 p1 => mvd_enc hn8 hm kg ⟨p0, p1⟩ r
  generalize hR : (fun x => ∃ g, Kf m (S 0) g ∧ x = enc (S 0) m g ∧ Edg S (nightP S) m w g f) = R at k
  have inR : ∀ g, Kf m (S 0) g → Edg S (nightP S) m w g f → R (enc (S 0) m g) := fun g kg eg => by rw [← hR]; exact ⟨g, kg, rfl, eg⟩
  -- what is reached by doors below d
  have lo : ∀ (z : Nat) (i : Int) (h' : AH) (l5 l6 l7 : Option Value), S 1 - i = z → 0 ≤ i → BQ h' (S 0 ^ m) v → BX h h' (S 0 ^ m) v R → (∀ e g, 0 ≤ e → e < i → opn S (nightP S) e → ((∃ p q : Int, (0 ≤ p ∧ p < m) ∧ PB S m f e p q g) ∨ (e = w ∧ ∃ q : Int, (0 ≤ q ∧ q < m) ∧ f q = nr S e ∧ g = fu f q (fr S e))) → 0 ≤ aI h' 272 (enc (S 0) m g)) → Ex X PG (d + 1) 263 12 [some (.ref 256), some (.int (J c)), some (.int (J w)), some (.int (J v)), some (.int (J i)), l5, l6, l7] [] h' Q := by
    intro z
    induction z with
    | zero =>
      intro i h' l5 l6 l7 e1 i0 B' X' a
      have s' := ks h' X'.1
      refine r263_12 (X'.1.C C) (by omega) ?_
      rw [s'.1]
      refine ⟨by omega, fun _ => k h' B' X' (fun g eg => ?_), fun y => absurd (by omega) y⟩
      obtain ⟨e, he, ho, hc⟩ := Edg_back.mp eg
      exact a e g he.1 (by omega) ho hc
    | succ z ih =>
      intro i h' l5 l6 l7 e1 i0 B' X' a
      have s' := ks h' X'.1
      have dk := dr_ok W (d := i) (by omega)
      refine r263_12 (X'.1.C C) (by omega) ?_
      rw [s'.1]
      refine ⟨by omega, fun y => absurd y (by omega), fun _ => ⟨W9, by omega, fun op => ?_, fun op => ?_⟩⟩
      · -- an open door
        -- who came in alone
        have l3 : ∀ (y : Nat) (j : Int) (h' : AH) (l6 l7 : Option Value), m - j = y → 0 ≤ j → BQ h' (S 0 ^ m) v → BX h h' (S 0 ^ m) v R → (∀ e g, 0 ≤ e → e < i → opn S (nightP S) e → ((∃ p q : Int, (0 ≤ p ∧ p < m) ∧ PB S m f e p q g) ∨ (e = w ∧ ∃ q : Int, (0 ≤ q ∧ q < m) ∧ f q = nr S e ∧ g = fu f q (fr S e))) → 0 ≤ aI h' 272 (enc (S 0) m g)) → (∀ g, (∃ p q : Int, (0 ≤ p ∧ p < m) ∧ PB S m f i p q g) → 0 ≤ aI h' 272 (enc (S 0) m g)) → (i = w → ∀ q : Int, 0 ≤ q → q < j → q < m → f q = nr S i → 0 ≤ aI h' 272 (enc (S 0) m (fu f q (fr S i)))) → Ex X PG (d + 1) 263 157 [some (.ref 256), some (.int (J c)), some (.int (J w)), some (.int (J v)), some (.int (J i)), some (.int (J j)), l6, l7] [] h' Q := by
          have fin : ∀ (h' : AH) (l5 l6 l7 : Option Value), BQ h' (S 0 ^ m) v → BX h h' (S 0 ^ m) v R → (∀ e g, 0 ≤ e → e < i → opn S (nightP S) e → ((∃ p q : Int, (0 ≤ p ∧ p < m) ∧ PB S m f e p q g) ∨ (e = w ∧ ∃ q : Int, (0 ≤ q ∧ q < m) ∧ f q = nr S e ∧ g = fu f q (fr S e))) → 0 ≤ aI h' 272 (enc (S 0) m g)) → (∀ g, (∃ p q : Int, (0 ≤ p ∧ p < m) ∧ PB S m f i p q g) → 0 ≤ aI h' 272 (enc (S 0) m g)) → (i = w → ∀ q : Int, 0 ≤ q → q < m → f q = nr S i → 0 ≤ aI h' 272 (enc (S 0) m (fu f q (fr S i)))) → Ex X PG (d + 1) 263 12 [some (.ref 256), some (.int (J c)), some (.int (J w)), some (.int (J v)), some (.int (J (i + 1))), l5, l6, l7] [] h' Q := by
            intro h' l5 l6 l7 B' X' a a1 a2
            refine ih (i + 1) h' l5 l6 l7 (by omega) (by omega) B' X' (fun e g e0 e1 ho hc => ?_)
            by_cases q : e = i
            · subst q
              rcases hc with hc | ⟨ew, x, hx, fx, rfl⟩
              · exact a1 g hc
              · exact a2 ew x hx.1 hx.2 fx
            · exact a e g e0 (by omega) ho hc
          intro y
          induction y with
          | zero =>
            intro j h' l6 l7 y1 j0 B' X' a a1 a2
            have s' := ks h' X'.1
            refine r263_157 (X'.1.C C) (by omega) ?_
            rw [s'.2]
            exact ⟨by omega, fun _ => fin h' _ _ _ B' X' a a1 (fun ew q q0 q1 => a2 ew q q0 (by omega) q1), fun y => absurd (by omega) y⟩
          | succ y ih2 =>
            intro j h' l6 l7 y1 j0 B' X' a a1 a2
            have s' := ks h' X'.1
            refine r263_157 (X'.1.C C) (by omega) ?_
            rw [s'.2, s'.1]
            refine ⟨by omega, fun y => absurd y (by omega), fun _ => ⟨by omega, gw, fun c1 => fin h' _ _ _ B' X' a a1 (fun ew => absurd ew c1), fun c1 => ⟨by omega, by omega, hn8, by omega, ?_⟩⟩⟩
            rw [dgc j j0 (by omega)]
            refine ⟨fun c2 => ?_, fun c2 => ?_⟩
            · refine ih2 (j + 1) h' _ _ (by omega) (by omega) B' X' a a1 (fun ew q q0 q1 q2 fq => ?_)
              by_cases e : q = j
              · subst e; exact absurd fq c2
              · exact a2 ew q q0 (by omega) q2 fq
            · have kg := kf.fu (p := j) (by omega) dk.2
              rw [ec, mv f kf j _ j0 (by omega)]
              refine m261 (N := S 0 ^ m) (v := v) (X'.1.C C) (by omega) B' (by omega) (eb _ kg) hv (fun h2 B2 X2 p2 => ⟨rfl, X2.1.1, ?_⟩)
              have eg : Edg S (nightP S) m w (fu f j (fr S i)) f := Edg_back.mpr ⟨i, by omega, op, Or.inr ⟨c1, j, by omega, c2, rfl⟩⟩
              have X3 := X'.tr (X2.mo (R' := R) (fun x ex => by rw [ex]; exact inR _ kg eg))
              rw [← ec]
              refine ih2 (j + 1) h2 _ _ (by omega) (by omega) B2 X3 (fun e g e0 e1 ho hc => ?_) (fun g hc => ?_) (fun ew q q0 q1 q2 fq => ?_)
              · have kgg : Kf m (S 0) g := by
                  obtain ⟨p, d', q, hl⟩ := Edg_back.mpr ⟨e, ⟨e0, by omega⟩, ho, hc⟩
                  exact Lbl_Kb W hl kf
                exact X2.pos (eb g kgg) (a e g e0 e1 ho hc)
              · have kgg : Kf m (S 0) g := by
                  obtain ⟨p, d', q, hl⟩ := (Edg_back (w := w)).mpr ⟨i, ⟨i0, by omega⟩, op, Or.inl hc⟩
                  exact Lbl_Kb W hl kf
                exact X2.pos (eb g kgg) (a1 g hc)
              · by_cases e : q = j
                · subst e; exact p2
                · exact X2.pos (eb _ (kf.fu (p := q) (by omega) dk.2)) (a2 ew q q0 (by omega) q2 fq)
        -- who went out
        have l1 : ∀ (y : Nat) (j : Int) (h' : AH) (l6 l7 : Option Value), m - j = y → 0 ≤ j → BQ h' (S 0 ^ m) v → BX h h' (S 0 ^ m) v R → (∀ e g, 0 ≤ e → e < i → opn S (nightP S) e → ((∃ p q : Int, (0 ≤ p ∧ p < m) ∧ PB S m f e p q g) ∨ (e = w ∧ ∃ q : Int, (0 ≤ q ∧ q < m) ∧ f q = nr S e ∧ g = fu f q (fr S e))) → 0 ≤ aI h' 272 (enc (S 0) m g)) → (∀ (p : Int) g, 0 ≤ p → p < j → p < m → (∃ q : Int, PB S m f i p q g) → 0 ≤ aI h' 272 (enc (S 0) m g)) → Ex X PG (d + 1) 263 38 [some (.ref 256), some (.int (J c)), some (.int (J w)), some (.int (J v)), some (.int (J i)), some (.int (J j)), l6, l7] [] h' Q := by
          intro y
          induction y with
          | zero =>
            intro j h' l6 l7 y1 j0 B' X' a a1
            have s' := ks h' X'.1
            refine r263_38 (X'.1.C C) (by omega) ?_
            rw [s'.2]
            refine ⟨by omega, fun _ => ?_, fun y => absurd (by omega) y⟩
            exact l3 m 0 h' _ _ (by omega) (by omega) B' X' a (fun g ⟨p, q, hp, hb⟩ => a1 p g hp.1 (by omega) hp.2 ⟨q, hb⟩) (fun ew q q0 q1 => by omega)
          | succ y ih2 =>
            intro j h' l6 l7 y1 j0 B' X' a a1
            have s' := ks h' X'.1
            refine r263_38 (X'.1.C C) (by omega) ?_
            rw [s'.2, s'.1]
            refine ⟨by omega, fun y => absurd y (by omega), fun _ => ⟨by omega, by omega, hn8, by omega, ?_⟩⟩
            rw [dgc j j0 (by omega)]
            refine ⟨fun c1 => ?_, fun c1 => ?_⟩
            · have k1 := kf.fu (p := j) (by omega) dk.1
              have e1' : mvd (S 0) c j (nr S i) = enc (S 0) m (fu f j (nr S i)) := by rw [ec]; exact mv f kf j _ j0 (by omega)
              rw [e1']
              refine m261 (N := S 0 ^ m) (v := v) (X'.1.C C) (by omega) B' (by omega) (eb _ k1) hv (fun h2 B2 X2 p2 => ⟨rfl, X2.1.1, ?_⟩)
              have eg : Edg S (nightP S) m w (fu f j (nr S i)) f := Edg_back.mpr ⟨i, by omega, op, Or.inl ⟨j, -1, by omega, c1, Or.inl ⟨rfl, rfl⟩⟩⟩
              have X3 := X'.tr (X2.mo (R' := R) (fun x ex => by rw [ex]; exact inR _ k1 eg))
              -- who came in
              have l2 : ∀ (u : Nat) (q : Int) (h' : AH), m - q = u → 0 ≤ q → BQ h' (S 0 ^ m) v → BX h h' (S 0 ^ m) v R → (∀ e g, 0 ≤ e → e < i → opn S (nightP S) e → ((∃ p q : Int, (0 ≤ p ∧ p < m) ∧ PB S m f e p q g) ∨ (e = w ∧ ∃ q : Int, (0 ≤ q ∧ q < m) ∧ f q = nr S e ∧ g = fu f q (fr S e))) → 0 ≤ aI h' 272 (enc (S 0) m g)) → (∀ (p : Int) g, 0 ≤ p → p < j → p < m → (∃ q : Int, PB S m f i p q g) → 0 ≤ aI h' 272 (enc (S 0) m g)) → 0 ≤ aI h' 272 (enc (S 0) m (fu f j (nr S i))) → (∀ q' : Int, 0 ≤ q' → q' < q → q' < m → ¬ q' = j → f q' = nr S i → 0 ≤ aI h' 272 (enc (S 0) m (fu (fu f j (nr S i)) q' (fr S i)))) → Ex X PG (d + 1) 263 91 [some (.ref 256), some (.int (J c)), some (.int (J w)), some (.int (J v)), some (.int (J i)), some (.int (J j)), some (.int (J (enc (S 0) m (fu f j (nr S i))))), some (.int (J q))] [] h' Q := by
                intro u
                induction u with
                | zero =>
                  intro q h' u1 q0 B' X' a a1 a2 a3
                  have s' := ks h' X'.1
                  refine r263_91 (X'.1.C C) (by omega) ?_
                  rw [s'.2]
                  refine ⟨by omega, fun _ => ?_, fun y => absurd (by omega) y⟩
                  refine ih2 (j + 1) h' _ _ (by omega) (by omega) B' X' a (fun p g p0 p1 p2 hb => ?_)
                  by_cases e : p = j
                  · subst e
                    obtain ⟨q', ef, ⟨_, rfl⟩ | ⟨hq, ne, fq, rfl⟩⟩ := hb
                    · exact a2
                    · exact a3 q' hq.1 (by omega) hq.2 ne fq
                  · exact a1 p g p0 (by omega) p2 hb
                | succ u ih3 =>
                  intro q h' u1 q0 B' X' a a1 a2 a3
                  have s' := ks h' X'.1
                  have eb1 := eb _ k1
                  refine r263_91 (X'.1.C C) (by omega) ?_
                  rw [s'.2, s'.1]
                  refine ⟨by omega, fun y => absurd y (by omega), fun _ => ⟨by omega, fun c2 => ?_, fun c2 => ⟨by omega, by omega, hn8, by omega, ?_⟩⟩⟩
                  · refine ih3 (q + 1) h' (by omega) (by omega) B' X' a a1 a2 (fun q' q0' q1 q2 ne fq => ?_)
                    by_cases e : q' = q
                    · subst e; exact absurd c2 ne
                    · exact a3 q' q0' (by omega) q2 ne fq
                  rw [dgc q q0 (by omega)]
                  refine ⟨fun c3 => ?_, fun c3 => ⟨by omega, ?_⟩⟩
                  · refine ih3 (q + 1) h' (by omega) (by omega) B' X' a a1 a2 (fun q' q0' q1 q2 ne fq => ?_)
                    by_cases e : q' = q
                    · subst e; exact absurd fq c3
                    · exact a3 q' q0' (by omega) q2 ne fq
                  · have k2 := k1.fu (p := q) (by omega) dk.2
                    rw [mv _ k1 q _ q0 (by omega)]
                    refine m261 (N := S 0 ^ m) (v := v) (X'.1.C C) (by omega) B' (by omega) (eb _ k2) hv (fun h2 B2 X2 p2 => ⟨rfl, X2.1.1, ?_⟩)
                    have eg2 : Edg S (nightP S) m w (fu (fu f j (nr S i)) q (fr S i)) f := Edg_back.mpr ⟨i, by omega, op, Or.inl ⟨j, q, by omega, c1, Or.inr ⟨by omega, c2, c3, rfl⟩⟩⟩
                    have X3 := X'.tr (X2.mo (R' := R) (fun x ex => by rw [ex]; exact inR _ k2 eg2))
                    refine ih3 (q + 1) h2 (by omega) (by omega) B2 X3 (fun e g e0 e1 ho hc => ?_) (fun p g p0 p1 p2 hb => ?_) (X2.pos (eb _ k1) a2) (fun q' q0' q1 q2 ne fq => ?_)
                    · have kgg : Kf m (S 0) g := by
                        obtain ⟨p, d', q, hl⟩ := Edg_back.mpr ⟨e, ⟨e0, by omega⟩, ho, hc⟩
                        exact Lbl_Kb W hl kf
                      exact X2.pos (eb g kgg) (a e g e0 e1 ho hc)
                    · have kgg : Kf m (S 0) g := by
                        obtain ⟨q', hb'⟩ := hb
                        obtain ⟨p, d', q, hl⟩ := (Edg_back (w := w)).mpr ⟨i, ⟨i0, by omega⟩, op, Or.inl ⟨p, q', ⟨p0, p2⟩, hb'⟩⟩
                        exact Lbl_Kb W hl kf
                      exact X2.pos (eb g kgg) (a1 p g p0 p1 p2 hb)
                    · by_cases e : q' = q
                      · subst e; exact p2
                      · exact X2.pos (eb _ (k1.fu (p := q') (by omega) dk.2)) (a3 q' q0' (by omega) q2 ne fq)
              refine l2 m 0 h2 (by omega) (by omega) B2 X3 (fun e g e0 e1 ho hc => ?_) (fun p g p0 p1 p2 hb => ?_) p2 (fun q' q0' q1 => by omega)
              · have kgg : Kf m (S 0) g := by
                  obtain ⟨p, d', q, hl⟩ := Edg_back.mpr ⟨e, ⟨e0, by omega⟩, ho, hc⟩
                  exact Lbl_Kb W hl kf
                exact X2.pos (eb g kgg) (a e g e0 e1 ho hc)
              · have kgg : Kf m (S 0) g := by
                  obtain ⟨q', hb'⟩ := hb
                  obtain ⟨p, d', q, hl⟩ := (Edg_back (w := w)).mpr ⟨i, ⟨i0, by omega⟩, op, Or.inl ⟨p, q', ⟨p0, p2⟩, hb'⟩⟩
                  exact Lbl_Kb W hl kf
                exact X2.pos (eb g kgg) (a1 p g p0 p1 p2 hb)
            · refine ih2 (j + 1) h' _ _ (by omega) (by omega) B' X' a (fun p g p0 p1 p2 hb => ?_)
              by_cases e : p = j
              · subst e; exact absurd hb.choose_spec.1 c1
              · exact a1 p g p0 (by omega) p2 hb
        exact l1 m 0 h' _ _ (by omega) (by omega) B' X' a (fun p g p0 p1 => by omega)
      · refine ih (i + 1) h' _ _ _ (by omega) (by omega) B' X' (fun e g e0 e1 ho hc => ?_)
        by_cases q : e = i
        · subst q; exact absurd ho op
        · exact a e g e0 (by omega) ho hc
  refine r263_0 C ⟨by omega, ?_⟩
  rw [ev]
  exact lo (S 1).toNat 0 h _ _ _ (by omega) (by omega) B BX.rf (fun e g e0 e1 => by omega)
