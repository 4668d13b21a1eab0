/-! THE REFERENCE: what coming to a goal costs. -/
/-- what p asks for going out, b pays -/
def wt (S : Int → Int) (b p : Int) : Int := if p = b then 0 else pS S p 2
/-- n passings for c, then G -/
def PK (S : Int → Int) (t : Prop) (m : Nat) (b : Int) (G : (Int → Int) → Prop) : Nat → Int → (Int → Int) → Prop
  | 0, c, f => c = 0 ∧ G f
  | n + 1, c, f => ∃ p d q g, Lbl S t m (-1) f p d q g ∧ PK S t m b G n (c - wt S b p) g
def CR (S : Int → Int) (t : Prop) (m : Nat) (b : Int) (G : (Int → Int) → Prop) (c : Int) (f : Int → Int) : Prop := ∃ n, PK S t m b G n c f
def IsP (S : Int → Int) (t : Prop) (m : Nat) (b : Int) (G : (Int → Int) → Prop) (f : Int → Int) (v : Int) : Prop := (v = -1 ∧ ∀ c, ¬ CR S t m b G c f) ∨ (0 ≤ v ∧ CR S t m b G v f ∧ ∀ c, CR S t m b G c f → v ≤ c)
theorem IsP.uniq {S : Int → Int} {t : Prop} {m : Nat} {b : Int} {G : (Int → Int) → Prop} {f : Int → Int} {v u : Int} (x : IsP S t m b G f v) (y : IsP S t m b G f u) : v = u := by
  rcases x with ⟨a, b⟩ | ⟨a, b, c⟩
  · rcases y with ⟨a', b'⟩ | ⟨a', b', c'⟩
    · omega
    · exact absurd b' (b _)
  · rcases y with ⟨a', b'⟩ | ⟨a', b', c'⟩
    · exact absurd b (b' _)
    · have := c _ b'
      have := c' _ b
      omega
theorem wt_b {N : Int} {S : Int → Int} (W : WF N S) (b : Int) {p : Int} (hp : 0 ≤ p ∧ p < S 2) : 0 ≤ wt S b p ∧ wt S b p ≤ 50 := by
  unfold wt
  have := W.2.1 p hp.1 hp.2
  split <;> omega
theorem CR.s {S : Int → Int} {t : Prop} {m : Nat} {b : Int} {G : (Int → Int) → Prop} {c p d q : Int} {f g : Int → Int} (x : CR S t m b G c g) (l : Lbl S t m (-1) f p d q g) : CR S t m b G (c + wt S b p) f := by
  obtain ⟨n, x⟩ := x
  exact ⟨n + 1, p, d, q, g, l, by rw [Int.add_sub_cancel]; exact x⟩
theorem pw_4k {b : Int} (hb : 0 < b) (h8 : b ≤ 8) {m : Nat} (hm : m ≤ 4) : 0 < b ^ m ∧ b ^ m ≤ 4096 := by
  refine ⟨pw_pos hb m, ?_⟩
  have := pw_le hb h8 m
  have : (8 : Int) ^ m ≤ 4096 := by
    have : m = 0 ∨ m = 1 ∨ m = 2 ∨ m = 3 ∨ m = 4 := by omega
    rcases this with rfl | rfl | rfl | rfl | rfl <;> decide
  omega
/-- what stands in the row of pays is so -/
def PI (S : Int → Int) (b : Int) (G : (Int → Int) → Prop) (A : Int → Int) : Prop :=
  (∀ f, Kf (S 2).toNat (S 0) f → 0 ≤ A (enc (S 0) (S 2).toNat f) → CR S (nightP S) (S 2).toNat b G (A (enc (S 0) (S 2).toNat f)) f) ∧ (∀ f, Kf (S 2).toNat (S 0) f → G f → A (enc (S 0) (S 2).toNat f) = 0) ∧
  (∀ x, 0 ≤ x → x < S 0 ^ (S 2).toNat → -1 ≤ A x ∧ A x ≤ 50 * cnt (fun y => 0 ≤ A y) (S 0 ^ (S 2).toNat))
/-- what is left to do -/
def mzr (A : Int → Int) (x : Int) : Int := if A x < 0 then 300000 else A x
def PM (S A : Int → Int) : Int := sumN (S 0 ^ (S 2).toNat).toNat (mzr A)
theorem PI_set {S A : Int → Int} {N b y n : Int} {g : Int → Int} {G : (Int → Int) → Prop} (W : WF N S) (hn : 0 < S 0) (x : PI S b G A) (kg : Kf (S 2).toNat (S 0) g) (ey : y = enc (S 0) (S 2).toNat g) (cr : CR S (nightP S) (S 2).toNat b G n g) (n0 : 0 ≤ n) (nb : n ≤ 50 * cnt (fun y => 0 ≤ A y) (S 0 ^ (S 2).toNat) + 50) (c : A y < 0 ∨ n < A y) : PI S b G (uu_ A y n) ∧ PM S (uu_ A y n) < PM S A ∧ cnt (fun z => 0 ≤ A z) (S 0 ^ (S 2).toNat) ≤ cnt (fun z => 0 ≤ uu_ A y n z) (S 0 ^ (S 2).toNat) := by
  have b0 := W.1
  unfold WFb at b0
  have pw := pw_4k hn b0.2.1 (m := (S 2).toNat) (by omega)
  have eb := enc_b hn _ g kg.1
  rw [← ey] at eb
  obtain ⟨x1, x2, x3⟩ := x
  have cbn := cnt_b (fun y => 0 ≤ A y) (i := S 0 ^ (S 2).toNat) (by omega)
  -- how many are reached
  have cu : cnt (fun z => 0 ≤ A z) (S 0 ^ (S 2).toNat) ≤ cnt (fun z => 0 ≤ uu_ A y n z) (S 0 ^ (S 2).toNat) ∧ (A y < 0 → cnt (fun z => 0 ≤ uu_ A y n z) (S 0 ^ (S 2).toNat) = cnt (fun z => 0 ≤ A z) (S 0 ^ (S 2).toNat) + 1) := by
    by_cases z : A y < 0
    · have := cnt_add (P := fun z => 0 ≤ A z) (R := fun z => 0 ≤ uu_ A y n z) (p := y) (n := S 0 ^ (S 2).toNat) eb (fun q q0 q1 ne => by rw [uu_ne (by omega) (by omega) ne]) (fun z => by omega) (by rw [uu_eq]; exact n0)
      exact ⟨by omega, fun _ => this⟩
    · refine ⟨?_, fun w => absurd w z⟩
      have : cnt (fun z => 0 ≤ uu_ A y n z) (S 0 ^ (S 2).toNat) = cnt (fun z => 0 ≤ A z) (S 0 ^ (S 2).toNat) := cnt_cong (fun q q0 q1 => by
        by_cases e : q = y
        · subst e; rw [uu_eq]; exact ⟨fun _ => by omega, fun _ => n0⟩
        · rw [uu_ne (by omega) (by omega) e])
      omega
  refine ⟨⟨fun f kf pf => ?_, fun f kf gf => ?_, fun z z0 z1 => ?_⟩, ?_, cu.1⟩
  · by_cases e : enc (S 0) (S 2).toNat f = y
    · have fg : f = g := enc_inj hn kf kg (by rw [e, ey])
      subst fg
      rw [e, uu_eq]; exact cr
    · have ef := enc_b hn _ f kf.1
      rw [uu_ne (by omega) (by omega) e] at pf ⊢
      exact x1 f kf pf
  · have := x2 f kf gf
    by_cases e : enc (S 0) (S 2).toNat f = y
    · rw [e] at this; omega
    · have ef := enc_b hn _ f kf.1
      rw [uu_ne (by omega) (by omega) e]; exact this
  · have x3z := x3 z z0 z1
    by_cases e : z = y
    · subst e
      rw [uu_eq]
      by_cases w : A z < 0
      · have := cu.2 w; omega
      · omega
    · rw [uu_ne (by omega) (by omega) e]; omega
  · unfold PM
    have em : sumN (S 0 ^ (S 2).toNat).toNat (mzr (uu_ A y n)) = sumN (S 0 ^ (S 2).toNat).toNat (uu_ (mzr A) y n) := sumN_cong _ (fun q q0 q1 => by
      unfold mzr
      by_cases e : q = y
      · subst e; rw [uu_eq, uu_eq, if_neg (by omega)]
      · rw [uu_ne (by omega) (by omega) e, uu_ne (by omega) (by omega) e])
    rw [em, sumN_uu (by omega) (by omega)]
    have : n < mzr A y := by
      unfold mzr
      rcases c with c | c
      · rw [if_pos c]; omega
      · rw [if_neg (by omega)]; exact c
    omega
theorem PM_nn {S A : Int → Int} : 0 ≤ PM S A := sumN_nn (fun k _ _ => by unfold mzr; split <;> omega)
theorem Lbl_back {S : Int → Int} {t : Prop} {m : Nat} {f g : Int → Int} {p d q : Int} : Lbl S t m (-1) g p d q f ↔ (0 ≤ d ∧ d < S 1) ∧ opn S t d ∧ (0 ≤ p ∧ p < m) ∧ PB S m f d p q g := by
  constructor
  · rintro ⟨hd, ho, hp, hc⟩
    refine ⟨hd, ho, hp, ?_⟩
    rcases hc with ⟨e, ⟨rfl, rfl⟩ | ⟨hq, ne, eq, rfl⟩⟩ | ⟨z, _⟩
    · exact ⟨fu_eq _ _ _, Or.inl ⟨rfl, by rw [fu_fu, fu_self e]⟩⟩
    · refine ⟨by rw [fu_ne (fun z => ne z.symm), fu_eq], Or.inr ⟨hq, ne, fu_eq _ _ _, ?_⟩⟩
      rw [fu_comm (p := q) (q := p) ne, fu_fu, fu_fu, fu_comm (p := p) (q := q) (fun z => ne z.symm), fu_self eq, fu_self e]
    · omega
  · rintro ⟨hd, ho, hp, e, ⟨rfl, rfl⟩ | ⟨hq, ne, eq, rfl⟩⟩
    · exact ⟨hd, ho, hp, Or.inl ⟨fu_eq _ _ _, Or.inl ⟨rfl, by rw [fu_fu, fu_self e]⟩⟩⟩
    · refine ⟨hd, ho, hp, Or.inl ⟨by rw [fu_ne (fun z => ne z.symm), fu_eq], Or.inr ⟨hq, ne, fu_eq _ _ _, ?_⟩⟩⟩
      rw [fu_comm (p := q) (q := p) ne, fu_fu, fu_fu, fu_comm (p := p) (q := q) (fun z => ne z.symm), fu_self eq, fu_self e]
-- OutwardDoorsModel.paysBack(II)Z at 0
set_option maxRecDepth 20000 in
set_option maxHeartbeats 4000000 in
theorem r271_0 {X : Cst} {d : Nat} {x1 : Int} {x2 : Int} {h : AH} {Q : Post} (C_h : Lay h)
  (w : Ex X PG (d + 1) 271 5 [some (.ref 256), some (.int (J x1)), some (.int (J x2)), some (.int (J 0)), some (.int (J 0)), none, none, none, none, none] [] h Q) :
    Ex X PG (d + 1) 271 0 [some (.ref 256), some (.int (J x1)), some (.int (J x2)), none, none, none, none, none, none, none] [] h Q := by
  refine wpx_ok (cut := [5, 19, 102]) 4 d 271 0 _ _ _ _ ?_
  show Ex X PG (d + 1) 271 5 [some (.ref 256), some (.int (J x1)), some (.int (J x2)), some (.int (J 0)), some (.int (J 0)), none, none, none, none, none] [] h Q
  try simp only [aI_wAL, fI_wAL, aL_wA, aL_wF, aI_wA_ne, aI_wF_ne, fI_wA_ne, fI_wF_ne, fI_wF_nk, aL_wAL_ne, J_sameA, J_sameF, aL_same, Nat.add_left_cancel_iff, Nat.add_eq_left, Nat.left_eq_add, not_false_eq_true, Nat.reduceEqDiff, Nat.reduceAdd, J_add, J_sub, J_mul, J_neg, J_and, J_or, J_xor, J_shl, J_shr, J_div, J_i2b, J_i2l, J_l2i, J_lcm, J_max, J_min, J_nab, J_nao, rdA, rdF, rdL, wA_fold, wF_fold, wL_fold, wC_fold]
  exact w
-- OutwardDoorsModel.paysBack(II)Z at 5
set_option maxRecDepth 20000 in
set_option maxHeartbeats 4000000 in
theorem r271_5 {X : Cst} {d : Nat} {x1 : Int} {x2 : Int} {x3 : Int} {x4 : Int} {l5 : Option Value} {l6 : Option Value} {l7 : Option Value} {l8 : Option Value} {l9 : Option Value} {h : AH} {Q : Post} (C_h : Lay h)
  (w : (-2147483648 ≤ x4 ∧ x4 < 2147483648) ∧ ((aI h 266 1 ≤ x4 → (x3 = 0 ∨ x3 = 1) ∧ Q (some (.int (J x3))) h) ∧ (¬ aI h 266 1 ≤ x4 → Ex X PG (d + 1) 271 19 [some (.ref 256), some (.int (J x1)), some (.int (J x2)), some (.int (J x3)), some (.int (J x4)), some (.int (J 0)), l6, l7, l8, l9] [] h Q))) :
    Ex X PG (d + 1) 271 5 [some (.ref 256), some (.int (J x1)), some (.int (J x2)), some (.int (J x3)), some (.int (J x4)), l5, l6, l7, l8, l9] [] h Q := by
  refine wpx_ok (cut := [5, 19, 102]) 8 d 271 5 _ _ _ _ ?_
  show hs h 256 = (0, 11) ∧ ∃ q1, hR h 256 20 = some q1 ∧ (hs h q1).1 = 1 ∧ ix (J 1) (hs h q1).2 ∧ (((hI h q1 (Int32.toNatClampNeg (J 1))) ≤ (J x4) → (J x3 = J 0 ∨ J x3 = J 1) ∧ Q (some (.int (J x3))) h) ∧ (¬ ((hI h q1 (Int32.toNatClampNeg (J 1))) ≤ (J x4)) → Ex X PG (d + 1) 271 19 [some (.ref 256), some (.int (J x1)), some (.int (J x2)), some (.int (J x3)), some (.int (J x4)), some (.int (J 0)), l6, l7, l8, l9] [] h Q))
  try simp only [aI_wAL, fI_wAL, aL_wA, aL_wF, aI_wA_ne, aI_wF_ne, fI_wA_ne, fI_wF_ne, fI_wF_nk, aL_wAL_ne, J_sameA, J_sameF, aL_same, Nat.add_left_cancel_iff, Nat.add_eq_left, Nat.left_eq_add, not_false_eq_true, Nat.reduceEqDiff, Nat.reduceAdd, J_add, J_sub, J_mul, J_neg, J_and, J_or, J_xor, J_shl, J_shr, J_div, J_i2b, J_i2l, J_l2i, J_lcm, J_max, J_min, J_nab, J_nao, rdA, rdF, rdL, wA_fold, wF_fold, wL_fold, wC_fold]
  refine ⟨(ls256 C_h), _, (lr256_20 C_h), ?_⟩
  refine ⟨congrArg Prod.fst (ls266 C_h), ixs (ls266 C_h) (by decide) (by decide), ?_⟩
  obtain ⟨k4, w⟩ := w
  refine ⟨fun c2 => ?_, fun c2 => ?_⟩
  · have t3 : aI h 266 1 ≤ x4 := ((Jle (rg_toInt _) k4).mp c2)
    replace w := w.1 t3
    obtain ⟨k5, w⟩ := w
    exact ⟨(k5.imp (congrArg J) (congrArg J)), w⟩
  · have t3 : ¬ aI h 266 1 ≤ x4 := (fun e => c2 ((Jle (rg_toInt _) k4).mpr e))
    replace w := w.2 t3
    exact w
-- OutwardDoorsModel.paysBack(II)Z at 19
set_option maxRecDepth 20000 in
set_option maxHeartbeats 4000000 in
theorem r271_19 {X : Cst} {d : Nat} {x1 : Int} {x2 : Int} {x3 : Int} {x4 : Int} {x5 : Int} {l6 : Option Value} {l7 : Option Value} {l8 : Option Value} {l9 : Option Value} {h : AH} {Q : Post} (C_h : Lay h) (hd : 3 ≤ d)
  (w : (-2147483648 ≤ x5 ∧ x5 < 2147483648) ∧ ((aI h 266 2 ≤ x5 → Ex X PG (d + 1) 271 5 [some (.ref 256), some (.int (J x1)), some (.int (J x2)), some (.int (J x3)), some (.int (J (x4 + 1))), some (.int (J x5)), l6, l7, l8, l9] [] h Q) ∧ (¬ aI h 266 2 ≤ x5 → (WF 999 (aI h 266)) ∧ (0 ≤ x4 ∧ x4 < aI h 266 1) ∧ ((¬ (opn (aI h 266) (nightP (aI h 266)) x4) → Ex X PG (d + 1) 271 5 [some (.ref 256), some (.int (J x1)), some (.int (J x2)), some (.int (J x3)), some (.int (J (x4 + 1))), some (.int (J x5)), l6, l7, l8, l9] [] h Q) ∧ ((opn (aI h 266) (nightP (aI h 266)) x4) → (0 ≤ x1 ∧ x1 < 32768) ∧ (0 ≤ x5 ∧ x5 ≤ 5) ∧ (0 < aI h 266 0 ∧ aI h 266 0 ≤ 8) ∧ (0 ≤ x4 ∧ x4 < 14) ∧ ((dgt (aI h 266 0) x1 x5 = fr (aI h 266) x4 → (0 ≤ x1 ∧ x1 < 4096) ∧ (-2147483648 ≤ x2 ∧ x2 < 2147483648) ∧ ((¬ x5 = x2 → (0 ≤ 10 + 6 * x5 + 2 ∧ 10 + 6 * x5 + 2 < 123) ∧ Ex X PG (d + 1) 271 102 [some (.ref 256), some (.int (J x1)), some (.int (J x2)), some (.int (J x3)), some (.int (J x4)), some (.int (J x5)), some (.int (J ((aI h 274 x1) + (pS (aI h 266) x5 2)))), some (.int (J (mvd (aI h 266 0) x1 x5 (nr (aI h 266) x4)))), some (.int (J (-1))), l9] [] h Q) ∧ (x5 = x2 → Ex X PG (d + 1) 271 102 [some (.ref 256), some (.int (J x1)), some (.int (J x2)), some (.int (J x3)), some (.int (J x4)), some (.int (J x5)), some (.int (J ((aI h 274 x1) + 0))), some (.int (J (mvd (aI h 266 0) x1 x5 (nr (aI h 266) x4)))), some (.int (J (-1))), l9] [] h Q))) ∧ (¬ dgt (aI h 266 0) x1 x5 = fr (aI h 266) x4 → Ex X PG (d + 1) 271 19 [some (.ref 256), some (.int (J x1)), some (.int (J x2)), some (.int (J x3)), some (.int (J x4)), some (.int (J (x5 + 1))), l6, l7, l8, l9] [] h Q))))))) :
    Ex X PG (d + 1) 271 19 [some (.ref 256), some (.int (J x1)), some (.int (J x2)), some (.int (J x3)), some (.int (J x4)), some (.int (J x5)), l6, l7, l8, l9] [] h Q := by
  refine wpx_ok (cut := [5, 19, 102]) 41 d 271 19 _ _ _ _ ?_
  show hs h 256 = (0, 11) ∧ ∃ q1, hR h 256 20 = some q1 ∧ (hs h q1).1 = 1 ∧ ix (J 2) (hs h q1).2 ∧ (((hI h q1 (Int32.toNatClampNeg (J 2))) ≤ (J x5) → Ex X PG (d + 1) 271 5 [some (.ref 256), some (.int (J x1)), some (.int (J x2)), some (.int (J x3)), some (.int ((J x4) + (J 1))), some (.int (J x5)), l6, l7, l8, l9] [] h Q) ∧ (¬ ((hI h q1 (Int32.toNatClampNeg (J 2))) ≤ (J x5)) → hs h 256 = (0, 11) ∧ Ex X PG d 217 0 [some (.ref 256), some (.int (J x4))] [] h (fun v5 h6 => ∃ r7, v5 = some (.int r7) ∧ ((r7 = (J 0) → Ex X PG (d + 1) 271 5 [some (.ref 256), some (.int (J x1)), some (.int (J x2)), some (.int (J x3)), some (.int ((J x4) + (J 1))), some (.int (J x5)), l6, l7, l8, l9] [] h6 Q) ∧ (¬ (r7 = (J 0)) → hs h6 256 = (0, 11) ∧ Ex X PG d 260 0 [some (.ref 256), some (.int (J x1)), some (.int (J x5))] [] h6 (fun v12 h13 => ∃ r14, v12 = some (.int r14) ∧ hs h13 256 = (0, 11) ∧ Ex X PG d 219 0 [some (.ref 256), some (.int (J x4))] [] h13 (fun v18 h19 => ∃ r20, v18 = some (.int r20) ∧ ((r14 = r20 → hs h19 256 = (0, 11) ∧ ∃ q24, hR h19 256 36 = some q24 ∧ (hs h19 q24).1 = 1 ∧ ix (J x1) (hs h19 q24).2 ∧ ((¬ (J x5) = (J x2) → hs h19 256 = (0, 11) ∧ Ex X PG d 209 0 [some (.ref 256), some (.int (J x5)), some (.int (J 2))] [] h19 (fun v29 h30 => ∃ r31, v29 = some (.int r31) ∧ hs h30 256 = (0, 11) ∧ Ex X PG d 218 0 [some (.ref 256), some (.int (J x4))] [] h30 (fun v33 h34 => ∃ r35, v33 = some (.int r35) ∧ hs h34 256 = (0, 11) ∧ Ex X PG d 264 0 [some (.ref 256), some (.int (J x1)), some (.int (J x5)), some (.int r35)] [] h34 (fun v36 h37 => ∃ r38, v36 = some (.int r38) ∧ Ex X PG (d + 1) 271 102 [some (.ref 256), some (.int (J x1)), some (.int (J x2)), some (.int (J x3)), some (.int (J x4)), some (.int (J x5)), some (.int ((hI h19 q24 (Int32.toNatClampNeg (J x1))) + r31)), some (.int r38), some (.int (J (-1))), l9] [] h37 Q)))) ∧ (¬ (¬ (J x5) = (J x2)) → hs h19 256 = (0, 11) ∧ Ex X PG d 218 0 [some (.ref 256), some (.int (J x4))] [] h19 (fun v39 h40 => ∃ r41, v39 = some (.int r41) ∧ hs h40 256 = (0, 11) ∧ Ex X PG d 264 0 [some (.ref 256), some (.int (J x1)), some (.int (J x5)), some (.int r41)] [] h40 (fun v42 h43 => ∃ r44, v42 = some (.int r44) ∧ Ex X PG (d + 1) 271 102 [some (.ref 256), some (.int (J x1)), some (.int (J x2)), some (.int (J x3)), some (.int (J x4)), some (.int (J x5)), some (.int ((hI h19 q24 (Int32.toNatClampNeg (J x1))) + (J 0))), some (.int r44), some (.int (J (-1))), l9] [] h43 Q))))) ∧ (¬ (r14 = r20) → Ex X PG (d + 1) 271 19 [some (.ref 256), some (.int (J x1)), some (.int (J x2)), some (.int (J x3)), some (.int (J x4)), some (.int ((J x5) + (J 1))), l6, l7, l8, l9] [] h19 Q)))))))))
  try simp only [aI_wAL, fI_wAL, aL_wA, aL_wF, aI_wA_ne, aI_wF_ne, fI_wA_ne, fI_wF_ne, fI_wF_nk, aL_wAL_ne, J_sameA, J_sameF, aL_same, Nat.add_left_cancel_iff, Nat.add_eq_left, Nat.left_eq_add, not_false_eq_true, Nat.reduceEqDiff, Nat.reduceAdd, J_add, J_sub, J_mul, J_neg, J_and, J_or, J_xor, J_shl, J_shr, J_div, J_i2b, J_i2l, J_l2i, J_lcm, J_max, J_min, J_nab, J_nao, rdA, rdF, rdL, wA_fold, wF_fold, wL_fold, wC_fold]
  refine ⟨(ls256 C_h), _, (lr256_20 C_h), ?_⟩
  refine ⟨congrArg Prod.fst (ls266 C_h), ixs (ls266 C_h) (by decide) (by decide), ?_⟩
  obtain ⟨k4, w⟩ := w
  refine ⟨fun c2 => ?_, fun c2 => ?_⟩
  · have t3 : aI h 266 2 ≤ x5 := ((Jle (rg_toInt _) k4).mp c2)
    replace w := w.1 t3
    exact w
  · have t3 : ¬ aI h 266 2 ≤ x5 := (fun e => c2 ((Jle (rg_toInt _) k4).mpr e))
    replace w := w.2 t3
    refine ⟨(ls256 C_h), ?_⟩
    obtain ⟨k8, w⟩ := w
    obtain ⟨k9, w⟩ := w
    refine m217 (h := h) (x := x4) C_h (by omega) k8 k9 ?_
    refine ⟨_, rfl, ?_⟩
    try simp only [aI_wAL, fI_wAL, aL_wA, aL_wF, aI_wA_ne, aI_wF_ne, fI_wA_ne, fI_wF_ne, fI_wF_nk, aL_wAL_ne, J_sameA, J_sameF, aL_same, Nat.add_left_cancel_iff, Nat.add_eq_left, Nat.left_eq_add, not_false_eq_true, Nat.reduceEqDiff, Nat.reduceAdd, J_add, J_sub, J_mul, J_neg, J_and, J_or, J_xor, J_shl, J_shr, J_div, J_i2b, J_i2l, J_l2i, J_lcm, J_max, J_min, J_nab, J_nao, rdA, rdF, rdL, wA_fold, wF_fold, wL_fold, wC_fold]
    refine ⟨fun c10 => ?_, fun c10 => ?_⟩
    · have t11 : ¬ (opn (aI h 266) (nightP (aI h 266)) x4) := ((bI0 _).mp c10)
      replace w := w.1 t11
      exact w
    · have t11 : (opn (aI h 266) (nightP (aI h 266)) x4) := (Classical.byContradiction fun n => c10 ((bI0 _).mpr n))
      replace w := w.2 t11
      refine ⟨(ls256 C_h), ?_⟩
      obtain ⟨k15, w⟩ := w
      obtain ⟨k16, w⟩ := w
      obtain ⟨k17, w⟩ := w
      refine m260 (h := h) (c := x1) (p := x5) C_h (by omega) k15 k16 k17 ?_
      refine ⟨_, rfl, ?_⟩
      try simp only [aI_wAL, fI_wAL, aL_wA, aL_wF, aI_wA_ne, aI_wF_ne, fI_wA_ne, fI_wF_ne, fI_wF_nk, aL_wAL_ne, J_sameA, J_sameF, aL_same, Nat.add_left_cancel_iff, Nat.add_eq_left, Nat.left_eq_add, not_false_eq_true, Nat.reduceEqDiff, Nat.reduceAdd, J_add, J_sub, J_mul, J_neg, J_and, J_or, J_xor, J_shl, J_shr, J_div, J_i2b, J_i2l, J_l2i, J_lcm, J_max, J_min, J_nab, J_nao, rdA, rdF, rdL, wA_fold, wF_fold, wL_fold, wC_fold]
      refine ⟨(ls256 C_h), ?_⟩
      obtain ⟨k21, w⟩ := w
      refine m219 (h := h) (x := x4) C_h (by omega) k21 ?_
      refine ⟨_, rfl, ?_⟩
      try simp only [aI_wAL, fI_wAL, aL_wA, aL_wF, aI_wA_ne, aI_wF_ne, fI_wA_ne, fI_wF_ne, fI_wF_nk, aL_wAL_ne, J_sameA, J_sameF, aL_same, Nat.add_left_cancel_iff, Nat.add_eq_left, Nat.left_eq_add, not_false_eq_true, Nat.reduceEqDiff, Nat.reduceAdd, J_add, J_sub, J_mul, J_neg, J_and, J_or, J_xor, J_shl, J_shr, J_div, J_i2b, J_i2l, J_l2i, J_lcm, J_max, J_min, J_nab, J_nao, rdA, rdF, rdL, wA_fold, wF_fold, wL_fold, wC_fold]
      refine ⟨fun c22 => ?_, fun c22 => ?_⟩
      · have t23 : dgt (aI h 266 0) x1 x5 = fr (aI h 266) x4 := ((Jeq (dgt_rg _ _ _) (aI_rg _ _ _)).mp c22)
        replace w := w.1 t23
        refine ⟨(ls256 C_h), _, (lr256_36 C_h), ?_⟩
        obtain ⟨k25, w⟩ := w
        refine ⟨congrArg Prod.fst (ls274 C_h), ixs (ls274 C_h) k25 (by decide), ?_⟩
        obtain ⟨k28, w⟩ := w
        refine ⟨fun c26 => ?_, fun c26 => ?_⟩
        · have t27 : ¬ x5 = x2 := (fun e => c26 ((Jeq k4 k28).mpr e))
          replace w := w.1 t27
          refine ⟨(ls256 C_h), ?_⟩
          obtain ⟨k32, w⟩ := w
          refine m209 (h := h) (p := x5) (w := 2) C_h (by omega) k32 ?_
          refine ⟨_, rfl, ?_⟩
          try simp only [aI_wAL, fI_wAL, aL_wA, aL_wF, aI_wA_ne, aI_wF_ne, fI_wA_ne, fI_wF_ne, fI_wF_nk, aL_wAL_ne, J_sameA, J_sameF, aL_same, Nat.add_left_cancel_iff, Nat.add_eq_left, Nat.left_eq_add, not_false_eq_true, Nat.reduceEqDiff, Nat.reduceAdd, J_add, J_sub, J_mul, J_neg, J_and, J_or, J_xor, J_shl, J_shr, J_div, J_i2b, J_i2l, J_l2i, J_lcm, J_max, J_min, J_nab, J_nao, rdA, rdF, rdL, wA_fold, wF_fold, wL_fold, wC_fold]
          refine ⟨(ls256 C_h), ?_⟩
          refine m218 (h := h) (x := x4) C_h (by omega) k21 ?_
          refine ⟨_, rfl, ?_⟩
          try simp only [aI_wAL, fI_wAL, aL_wA, aL_wF, aI_wA_ne, aI_wF_ne, fI_wA_ne, fI_wF_ne, fI_wF_nk, aL_wAL_ne, J_sameA, J_sameF, aL_same, Nat.add_left_cancel_iff, Nat.add_eq_left, Nat.left_eq_add, not_false_eq_true, Nat.reduceEqDiff, Nat.reduceAdd, J_add, J_sub, J_mul, J_neg, J_and, J_or, J_xor, J_shl, J_shr, J_div, J_i2b, J_i2l, J_l2i, J_lcm, J_max, J_min, J_nab, J_nao, rdA, rdF, rdL, wA_fold, wF_fold, wL_fold, wC_fold]
          refine ⟨(ls256 C_h), ?_⟩
          refine m264 (h := h) (c := x1) (p := x5) (r := (nr (aI h 266) x4)) C_h (by omega) k15 k16 k17 ?_
          refine ⟨_, rfl, ?_⟩
          try simp only [aI_wAL, fI_wAL, aL_wA, aL_wF, aI_wA_ne, aI_wF_ne, fI_wA_ne, fI_wF_ne, fI_wF_nk, aL_wAL_ne, J_sameA, J_sameF, aL_same, Nat.add_left_cancel_iff, Nat.add_eq_left, Nat.left_eq_add, not_false_eq_true, Nat.reduceEqDiff, Nat.reduceAdd, J_add, J_sub, J_mul, J_neg, J_and, J_or, J_xor, J_shl, J_shr, J_div, J_i2b, J_i2l, J_l2i, J_lcm, J_max, J_min, J_nab, J_nao, rdA, rdF, rdL, wA_fold, wF_fold, wL_fold, wC_fold]
          exact w
        · have t27 : x5 = x2 := ((Jeq k4 k28).mp (Classical.byContradiction c26))
          replace w := w.2 t27
          refine ⟨(ls256 C_h), ?_⟩
          refine m218 (h := h) (x := x4) C_h (by omega) k21 ?_
          refine ⟨_, rfl, ?_⟩
          try simp only [aI_wAL, fI_wAL, aL_wA, aL_wF, aI_wA_ne, aI_wF_ne, fI_wA_ne, fI_wF_ne, fI_wF_nk, aL_wAL_ne, J_sameA, J_sameF, aL_same, Nat.add_left_cancel_iff, Nat.add_eq_left, Nat.left_eq_add, not_false_eq_true, Nat.reduceEqDiff, Nat.reduceAdd, J_add, J_sub, J_mul, J_neg, J_and, J_or, J_xor, J_shl, J_shr, J_div, J_i2b, J_i2l, J_l2i, J_lcm, J_max, J_min, J_nab, J_nao, rdA, rdF, rdL, wA_fold, wF_fold, wL_fold, wC_fold]
          refine ⟨(ls256 C_h), ?_⟩
          refine m264 (h := h) (c := x1) (p := x5) (r := (nr (aI h 266) x4)) C_h (by omega) k15 k16 k17 ?_
          refine ⟨_, rfl, ?_⟩
          try simp only [aI_wAL, fI_wAL, aL_wA, aL_wF, aI_wA_ne, aI_wF_ne, fI_wA_ne, fI_wF_ne, fI_wF_nk, aL_wAL_ne, J_sameA, J_sameF, aL_same, Nat.add_left_cancel_iff, Nat.add_eq_left, Nat.left_eq_add, not_false_eq_true, Nat.reduceEqDiff, Nat.reduceAdd, J_add, J_sub, J_mul, J_neg, J_and, J_or, J_xor, J_shl, J_shr, J_div, J_i2b, J_i2l, J_l2i, J_lcm, J_max, J_min, J_nab, J_nao, rdA, rdF, rdL, wA_fold, wF_fold, wL_fold, wC_fold]
          exact w
      · have t23 : ¬ dgt (aI h 266 0) x1 x5 = fr (aI h 266) x4 := (fun e => c22 ((Jeq (dgt_rg _ _ _) (aI_rg _ _ _)).mpr e))
        replace w := w.2 t23
        exact w
-- OutwardDoorsModel.paysBack(II)Z at 102
set_option maxRecDepth 20000 in
set_option maxHeartbeats 4000000 in
theorem r271_102 {X : Cst} {d : Nat} {x1 : Int} {x2 : Int} {x3 : Int} {x4 : Int} {x5 : Int} {x6 : Int} {x7 : Int} {x8 : Int} {l9 : Option Value} {h : AH} {Q : Post} (C_h : Lay h) (hd : 3 ≤ d)
  (w : (-2147483648 ≤ x8 ∧ x8 < 2147483648) ∧ ((aI h 266 2 ≤ x8 → Ex X PG (d + 1) 271 19 [some (.ref 256), some (.int (J x1)), some (.int (J x2)), some (.int (J x3)), some (.int (J x4)), some (.int (J (x5 + 1))), some (.int (J x6)), some (.int (J x7)), some (.int (J x8)), l9] [] h Q) ∧ (¬ aI h 266 2 ≤ x8 → ((x8 < 0 → ((0 ≤ x8 → (0 ≤ x4 ∧ x4 < 14) ∧ (0 ≤ x7 ∧ x7 < 32768) ∧ (0 ≤ x8 ∧ x8 ≤ 5) ∧ (0 < aI h 266 0 ∧ aI h 266 0 ≤ 8) ∧ (0 ≤ mvd (aI h 266 0) x7 x8 (fr (aI h 266) x4) ∧ mvd (aI h 266 0) x7 x8 (fr (aI h 266) x4) < 4096) ∧ ((aI h 274 (mvd (aI h 266 0) x7 x8 (fr (aI h 266) x4)) < 0 → Ex X PG (d + 1) 271 102 [some (.ref 256), some (.int (J x1)), some (.int (J x2)), some (.int (J 1)), some (.int (J x4)), some (.int (J x5)), some (.int (J x6)), some (.int (J x7)), some (.int (J (x8 + 1))), some (.int (J (mvd (aI h 266 0) x7 x8 (fr (aI h 266) x4))))] [] (wA h 274 (mvd (aI h 266 0) x7 x8 (fr (aI h 266) x4)) x6) Q) ∧ (¬ aI h 274 (mvd (aI h 266 0) x7 x8 (fr (aI h 266) x4)) < 0 → (-2147483648 ≤ x6 ∧ x6 < 2147483648) ∧ ((x6 < aI h 274 (mvd (aI h 266 0) x7 x8 (fr (aI h 266) x4)) → Ex X PG (d + 1) 271 102 [some (.ref 256), some (.int (J x1)), some (.int (J x2)), some (.int (J 1)), some (.int (J x4)), some (.int (J x5)), some (.int (J x6)), some (.int (J x7)), some (.int (J (x8 + 1))), some (.int (J (mvd (aI h 266 0) x7 x8 (fr (aI h 266) x4))))] [] (wA h 274 (mvd (aI h 266 0) x7 x8 (fr (aI h 266) x4)) x6) Q) ∧ (¬ x6 < aI h 274 (mvd (aI h 266 0) x7 x8 (fr (aI h 266) x4)) → Ex X PG (d + 1) 271 102 [some (.ref 256), some (.int (J x1)), some (.int (J x2)), some (.int (J x3)), some (.int (J x4)), some (.int (J x5)), some (.int (J x6)), some (.int (J x7)), some (.int (J (x8 + 1))), some (.int (J (mvd (aI h 266 0) x7 x8 (fr (aI h 266) x4))))] [] h Q))))) ∧ (¬ 0 ≤ x8 → (0 ≤ x7 ∧ x7 < 4096) ∧ ((aI h 274 x7 < 0 → Ex X PG (d + 1) 271 102 [some (.ref 256), some (.int (J x1)), some (.int (J x2)), some (.int (J 1)), some (.int (J x4)), some (.int (J x5)), some (.int (J x6)), some (.int (J x7)), some (.int (J (x8 + 1))), some (.int (J x7))] [] (wA h 274 x7 x6) Q) ∧ (¬ aI h 274 x7 < 0 → (-2147483648 ≤ x6 ∧ x6 < 2147483648) ∧ ((x6 < aI h 274 x7 → Ex X PG (d + 1) 271 102 [some (.ref 256), some (.int (J x1)), some (.int (J x2)), some (.int (J 1)), some (.int (J x4)), some (.int (J x5)), some (.int (J x6)), some (.int (J x7)), some (.int (J (x8 + 1))), some (.int (J x7))] [] (wA h 274 x7 x6) Q) ∧ (¬ x6 < aI h 274 x7 → Ex X PG (d + 1) 271 102 [some (.ref 256), some (.int (J x1)), some (.int (J x2)), some (.int (J x3)), some (.int (J x4)), some (.int (J x5)), some (.int (J x6)), some (.int (J x7)), some (.int (J (x8 + 1))), some (.int (J x7))] [] h Q))))))) ∧ (¬ x8 < 0 → (-2147483648 ≤ x5 ∧ x5 < 2147483648) ∧ ((x8 = x5 → Ex X PG (d + 1) 271 102 [some (.ref 256), some (.int (J x1)), some (.int (J x2)), some (.int (J x3)), some (.int (J x4)), some (.int (J x5)), some (.int (J x6)), some (.int (J x7)), some (.int (J (x8 + 1))), l9] [] h Q) ∧ (¬ x8 = x5 → (0 ≤ x1 ∧ x1 < 32768) ∧ (0 ≤ x8 ∧ x8 ≤ 5) ∧ (0 < aI h 266 0 ∧ aI h 266 0 ≤ 8) ∧ (0 ≤ x4 ∧ x4 < 14) ∧ ((dgt (aI h 266 0) x1 x8 = nr (aI h 266) x4 → ((0 ≤ x8 → (0 ≤ x7 ∧ x7 < 32768) ∧ (0 ≤ mvd (aI h 266 0) x7 x8 (fr (aI h 266) x4) ∧ mvd (aI h 266 0) x7 x8 (fr (aI h 266) x4) < 4096) ∧ ((aI h 274 (mvd (aI h 266 0) x7 x8 (fr (aI h 266) x4)) < 0 → Ex X PG (d + 1) 271 102 [some (.ref 256), some (.int (J x1)), some (.int (J x2)), some (.int (J 1)), some (.int (J x4)), some (.int (J x5)), some (.int (J x6)), some (.int (J x7)), some (.int (J (x8 + 1))), some (.int (J (mvd (aI h 266 0) x7 x8 (fr (aI h 266) x4))))] [] (wA h 274 (mvd (aI h 266 0) x7 x8 (fr (aI h 266) x4)) x6) Q) ∧ (¬ aI h 274 (mvd (aI h 266 0) x7 x8 (fr (aI h 266) x4)) < 0 → (-2147483648 ≤ x6 ∧ x6 < 2147483648) ∧ ((x6 < aI h 274 (mvd (aI h 266 0) x7 x8 (fr (aI h 266) x4)) → Ex X PG (d + 1) 271 102 [some (.ref 256), some (.int (J x1)), some (.int (J x2)), some (.int (J 1)), some (.int (J x4)), some (.int (J x5)), some (.int (J x6)), some (.int (J x7)), some (.int (J (x8 + 1))), some (.int (J (mvd (aI h 266 0) x7 x8 (fr (aI h 266) x4))))] [] (wA h 274 (mvd (aI h 266 0) x7 x8 (fr (aI h 266) x4)) x6) Q) ∧ (¬ x6 < aI h 274 (mvd (aI h 266 0) x7 x8 (fr (aI h 266) x4)) → Ex X PG (d + 1) 271 102 [some (.ref 256), some (.int (J x1)), some (.int (J x2)), some (.int (J x3)), some (.int (J x4)), some (.int (J x5)), some (.int (J x6)), some (.int (J x7)), some (.int (J (x8 + 1))), some (.int (J (mvd (aI h 266 0) x7 x8 (fr (aI h 266) x4))))] [] h Q))))) ∧ (¬ 0 ≤ x8 → (0 ≤ x7 ∧ x7 < 4096) ∧ ((aI h 274 x7 < 0 → Ex X PG (d + 1) 271 102 [some (.ref 256), some (.int (J x1)), some (.int (J x2)), some (.int (J 1)), some (.int (J x4)), some (.int (J x5)), some (.int (J x6)), some (.int (J x7)), some (.int (J (x8 + 1))), some (.int (J x7))] [] (wA h 274 x7 x6) Q) ∧ (¬ aI h 274 x7 < 0 → (-2147483648 ≤ x6 ∧ x6 < 2147483648) ∧ ((x6 < aI h 274 x7 → Ex X PG (d + 1) 271 102 [some (.ref 256), some (.int (J x1)), some (.int (J x2)), some (.int (J 1)), some (.int (J x4)), some (.int (J x5)), some (.int (J x6)), some (.int (J x7)), some (.int (J (x8 + 1))), some (.int (J x7))] [] (wA h 274 x7 x6) Q) ∧ (¬ x6 < aI h 274 x7 → Ex X PG (d + 1) 271 102 [some (.ref 256), some (.int (J x1)), some (.int (J x2)), some (.int (J x3)), some (.int (J x4)), some (.int (J x5)), some (.int (J x6)), some (.int (J x7)), some (.int (J (x8 + 1))), some (.int (J x7))] [] h Q))))))) ∧ (¬ dgt (aI h 266 0) x1 x8 = nr (aI h 266) x4 → Ex X PG (d + 1) 271 102 [some (.ref 256), some (.int (J x1)), some (.int (J x2)), some (.int (J x3)), some (.int (J x4)), some (.int (J x5)), some (.int (J x6)), some (.int (J x7)), some (.int (J (x8 + 1))), l9] [] h Q))))))))) :
    Ex X PG (d + 1) 271 102 [some (.ref 256), some (.int (J x1)), some (.int (J x2)), some (.int (J x3)), some (.int (J x4)), some (.int (J x5)), some (.int (J x6)), some (.int (J x7)), some (.int (J x8)), l9] [] h Q := by
  refine wpx_ok (cut := [5, 19, 102]) 49 d 271 102 _ _ _ _ ?_
  show hs h 256 = (0, 11) ∧ ∃ q1, hR h 256 20 = some q1 ∧ (hs h q1).1 = 1 ∧ ix (J 2) (hs h q1).2 ∧ (((hI h q1 (Int32.toNatClampNeg (J 2))) ≤ (J x8) → Ex X PG (d + 1) 271 19 [some (.ref 256), some (.int (J x1)), some (.int (J x2)), some (.int (J x3)), some (.int (J x4)), some (.int ((J x5) + (J 1))), some (.int (J x6)), some (.int (J x7)), some (.int (J x8)), l9] [] h Q) ∧ (¬ ((hI h q1 (Int32.toNatClampNeg (J 2))) ≤ (J x8)) → (((J x8) < (J 0) → (((J 0) ≤ (J x8) → hs h 256 = (0, 11) ∧ Ex X PG d 219 0 [some (.ref 256), some (.int (J x4))] [] h (fun v9 h10 => ∃ r11, v9 = some (.int r11) ∧ hs h10 256 = (0, 11) ∧ Ex X PG d 264 0 [some (.ref 256), some (.int (J x7)), some (.int (J x8)), some (.int r11)] [] h10 (fun v13 h14 => ∃ r15, v13 = some (.int r15) ∧ hs h14 256 = (0, 11) ∧ ∃ q19, hR h14 256 36 = some q19 ∧ (hs h14 q19).1 = 1 ∧ ix r15 (hs h14 q19).2 ∧ (((hI h14 q19 (Int32.toNatClampNeg r15)) < (J 0) → hs h14 256 = (0, 11) ∧ ∃ q23, hR h14 256 36 = some q23 ∧ (hs h14 q23).1 = 1 ∧ ix r15 (hs h14 q23).2 ∧ Ex X PG (d + 1) 271 102 [some (.ref 256), some (.int (J x1)), some (.int (J x2)), some (.int (J 1)), some (.int (J x4)), some (.int (J x5)), some (.int (J x6)), some (.int (J x7)), some (.int ((J x8) + (J 1))), some (.int r15)] [] (wI h14 q23 (Int32.toNatClampNeg r15) (J x6)) Q) ∧ (¬ ((hI h14 q19 (Int32.toNatClampNeg r15)) < (J 0)) → hs h14 256 = (0, 11) ∧ ∃ q24, hR h14 256 36 = some q24 ∧ (hs h14 q24).1 = 1 ∧ ix r15 (hs h14 q24).2 ∧ (((J x6) < (hI h14 q24 (Int32.toNatClampNeg r15)) → hs h14 256 = (0, 11) ∧ ∃ q28, hR h14 256 36 = some q28 ∧ (hs h14 q28).1 = 1 ∧ ix r15 (hs h14 q28).2 ∧ Ex X PG (d + 1) 271 102 [some (.ref 256), some (.int (J x1)), some (.int (J x2)), some (.int (J 1)), some (.int (J x4)), some (.int (J x5)), some (.int (J x6)), some (.int (J x7)), some (.int ((J x8) + (J 1))), some (.int r15)] [] (wI h14 q28 (Int32.toNatClampNeg r15) (J x6)) Q) ∧ (¬ ((J x6) < (hI h14 q24 (Int32.toNatClampNeg r15))) → Ex X PG (d + 1) 271 102 [some (.ref 256), some (.int (J x1)), some (.int (J x2)), some (.int (J x3)), some (.int (J x4)), some (.int (J x5)), some (.int (J x6)), some (.int (J x7)), some (.int ((J x8) + (J 1))), some (.int r15)] [] h14 Q))))))) ∧ (¬ ((J 0) ≤ (J x8)) → hs h 256 = (0, 11) ∧ ∃ q29, hR h 256 36 = some q29 ∧ (hs h q29).1 = 1 ∧ ix (J x7) (hs h q29).2 ∧ (((hI h q29 (Int32.toNatClampNeg (J x7))) < (J 0) → hs h 256 = (0, 11) ∧ ∃ q33, hR h 256 36 = some q33 ∧ (hs h q33).1 = 1 ∧ ix (J x7) (hs h q33).2 ∧ Ex X PG (d + 1) 271 102 [some (.ref 256), some (.int (J x1)), some (.int (J x2)), some (.int (J 1)), some (.int (J x4)), some (.int (J x5)), some (.int (J x6)), some (.int (J x7)), some (.int ((J x8) + (J 1))), some (.int (J x7))] [] (wI h q33 (Int32.toNatClampNeg (J x7)) (J x6)) Q) ∧ (¬ ((hI h q29 (Int32.toNatClampNeg (J x7))) < (J 0)) → hs h 256 = (0, 11) ∧ ∃ q34, hR h 256 36 = some q34 ∧ (hs h q34).1 = 1 ∧ ix (J x7) (hs h q34).2 ∧ (((J x6) < (hI h q34 (Int32.toNatClampNeg (J x7))) → hs h 256 = (0, 11) ∧ ∃ q38, hR h 256 36 = some q38 ∧ (hs h q38).1 = 1 ∧ ix (J x7) (hs h q38).2 ∧ Ex X PG (d + 1) 271 102 [some (.ref 256), some (.int (J x1)), some (.int (J x2)), some (.int (J 1)), some (.int (J x4)), some (.int (J x5)), some (.int (J x6)), some (.int (J x7)), some (.int ((J x8) + (J 1))), some (.int (J x7))] [] (wI h q38 (Int32.toNatClampNeg (J x7)) (J x6)) Q) ∧ (¬ ((J x6) < (hI h q34 (Int32.toNatClampNeg (J x7)))) → Ex X PG (d + 1) 271 102 [some (.ref 256), some (.int (J x1)), some (.int (J x2)), some (.int (J x3)), some (.int (J x4)), some (.int (J x5)), some (.int (J x6)), some (.int (J x7)), some (.int ((J x8) + (J 1))), some (.int (J x7))] [] h Q))))))) ∧ (¬ ((J x8) < (J 0)) → (((J x8) = (J x5) → Ex X PG (d + 1) 271 102 [some (.ref 256), some (.int (J x1)), some (.int (J x2)), some (.int (J x3)), some (.int (J x4)), some (.int (J x5)), some (.int (J x6)), some (.int (J x7)), some (.int ((J x8) + (J 1))), l9] [] h Q) ∧ (¬ ((J x8) = (J x5)) → hs h 256 = (0, 11) ∧ Ex X PG d 260 0 [some (.ref 256), some (.int (J x1)), some (.int (J x8))] [] h (fun v42 h43 => ∃ r44, v42 = some (.int r44) ∧ hs h43 256 = (0, 11) ∧ Ex X PG d 218 0 [some (.ref 256), some (.int (J x4))] [] h43 (fun v48 h49 => ∃ r50, v48 = some (.int r50) ∧ ((r44 = r50 → (((J 0) ≤ (J x8) → hs h49 256 = (0, 11) ∧ Ex X PG d 219 0 [some (.ref 256), some (.int (J x4))] [] h49 (fun v56 h57 => ∃ r58, v56 = some (.int r58) ∧ hs h57 256 = (0, 11) ∧ Ex X PG d 264 0 [some (.ref 256), some (.int (J x7)), some (.int (J x8)), some (.int r58)] [] h57 (fun v59 h60 => ∃ r61, v59 = some (.int r61) ∧ hs h60 256 = (0, 11) ∧ ∃ q63, hR h60 256 36 = some q63 ∧ (hs h60 q63).1 = 1 ∧ ix r61 (hs h60 q63).2 ∧ (((hI h60 q63 (Int32.toNatClampNeg r61)) < (J 0) → hs h60 256 = (0, 11) ∧ ∃ q67, hR h60 256 36 = some q67 ∧ (hs h60 q67).1 = 1 ∧ ix r61 (hs h60 q67).2 ∧ Ex X PG (d + 1) 271 102 [some (.ref 256), some (.int (J x1)), some (.int (J x2)), some (.int (J 1)), some (.int (J x4)), some (.int (J x5)), some (.int (J x6)), some (.int (J x7)), some (.int ((J x8) + (J 1))), some (.int r61)] [] (wI h60 q67 (Int32.toNatClampNeg r61) (J x6)) Q) ∧ (¬ ((hI h60 q63 (Int32.toNatClampNeg r61)) < (J 0)) → hs h60 256 = (0, 11) ∧ ∃ q68, hR h60 256 36 = some q68 ∧ (hs h60 q68).1 = 1 ∧ ix r61 (hs h60 q68).2 ∧ (((J x6) < (hI h60 q68 (Int32.toNatClampNeg r61)) → hs h60 256 = (0, 11) ∧ ∃ q72, hR h60 256 36 = some q72 ∧ (hs h60 q72).1 = 1 ∧ ix r61 (hs h60 q72).2 ∧ Ex X PG (d + 1) 271 102 [some (.ref 256), some (.int (J x1)), some (.int (J x2)), some (.int (J 1)), some (.int (J x4)), some (.int (J x5)), some (.int (J x6)), some (.int (J x7)), some (.int ((J x8) + (J 1))), some (.int r61)] [] (wI h60 q72 (Int32.toNatClampNeg r61) (J x6)) Q) ∧ (¬ ((J x6) < (hI h60 q68 (Int32.toNatClampNeg r61))) → Ex X PG (d + 1) 271 102 [some (.ref 256), some (.int (J x1)), some (.int (J x2)), some (.int (J x3)), some (.int (J x4)), some (.int (J x5)), some (.int (J x6)), some (.int (J x7)), some (.int ((J x8) + (J 1))), some (.int r61)] [] h60 Q))))))) ∧ (¬ ((J 0) ≤ (J x8)) → hs h49 256 = (0, 11) ∧ ∃ q73, hR h49 256 36 = some q73 ∧ (hs h49 q73).1 = 1 ∧ ix (J x7) (hs h49 q73).2 ∧ (((hI h49 q73 (Int32.toNatClampNeg (J x7))) < (J 0) → hs h49 256 = (0, 11) ∧ ∃ q77, hR h49 256 36 = some q77 ∧ (hs h49 q77).1 = 1 ∧ ix (J x7) (hs h49 q77).2 ∧ Ex X PG (d + 1) 271 102 [some (.ref 256), some (.int (J x1)), some (.int (J x2)), some (.int (J 1)), some (.int (J x4)), some (.int (J x5)), some (.int (J x6)), some (.int (J x7)), some (.int ((J x8) + (J 1))), some (.int (J x7))] [] (wI h49 q77 (Int32.toNatClampNeg (J x7)) (J x6)) Q) ∧ (¬ ((hI h49 q73 (Int32.toNatClampNeg (J x7))) < (J 0)) → hs h49 256 = (0, 11) ∧ ∃ q78, hR h49 256 36 = some q78 ∧ (hs h49 q78).1 = 1 ∧ ix (J x7) (hs h49 q78).2 ∧ (((J x6) < (hI h49 q78 (Int32.toNatClampNeg (J x7))) → hs h49 256 = (0, 11) ∧ ∃ q82, hR h49 256 36 = some q82 ∧ (hs h49 q82).1 = 1 ∧ ix (J x7) (hs h49 q82).2 ∧ Ex X PG (d + 1) 271 102 [some (.ref 256), some (.int (J x1)), some (.int (J x2)), some (.int (J 1)), some (.int (J x4)), some (.int (J x5)), some (.int (J x6)), some (.int (J x7)), some (.int ((J x8) + (J 1))), some (.int (J x7))] [] (wI h49 q82 (Int32.toNatClampNeg (J x7)) (J x6)) Q) ∧ (¬ ((J x6) < (hI h49 q78 (Int32.toNatClampNeg (J x7)))) → Ex X PG (d + 1) 271 102 [some (.ref 256), some (.int (J x1)), some (.int (J x2)), some (.int (J x3)), some (.int (J x4)), some (.int (J x5)), some (.int (J x6)), some (.int (J x7)), some (.int ((J x8) + (J 1))), some (.int (J x7))] [] h49 Q))))))) ∧ (¬ (r44 = r50) → Ex X PG (d + 1) 271 102 [some (.ref 256), some (.int (J x1)), some (.int (J x2)), some (.int (J x3)), some (.int (J x4)), some (.int (J x5)), some (.int (J x6)), some (.int (J x7)), some (.int ((J x8) + (J 1))), l9] [] h49 Q))))))))))
  try simp only [aI_wAL, fI_wAL, aL_wA, aL_wF, aI_wA_ne, aI_wF_ne, fI_wA_ne, fI_wF_ne, fI_wF_nk, aL_wAL_ne, J_sameA, J_sameF, aL_same, Nat.add_left_cancel_iff, Nat.add_eq_left, Nat.left_eq_add, not_false_eq_true, Nat.reduceEqDiff, Nat.reduceAdd, J_add, J_sub, J_mul, J_neg, J_and, J_or, J_xor, J_shl, J_shr, J_div, J_i2b, J_i2l, J_l2i, J_lcm, J_max, J_min, J_nab, J_nao, rdA, rdF, rdL, wA_fold, wF_fold, wL_fold, wC_fold]
  refine ⟨(ls256 C_h), _, (lr256_20 C_h), ?_⟩
  refine ⟨congrArg Prod.fst (ls266 C_h), ixs (ls266 C_h) (by decide) (by decide), ?_⟩
  obtain ⟨k4, w⟩ := w
  refine ⟨fun c2 => ?_, fun c2 => ?_⟩
  · have t3 : aI h 266 2 ≤ x8 := ((Jle (rg_toInt _) k4).mp c2)
    replace w := w.1 t3
    exact w
  · have t3 : ¬ aI h 266 2 ≤ x8 := (fun e => c2 ((Jle (rg_toInt _) k4).mpr e))
    replace w := w.2 t3
    refine ⟨fun c5 => ?_, fun c5 => ?_⟩
    · have t6 : x8 < 0 := ((Jlt k4 (by decide)).mp c5)
      replace w := w.1 t6
      refine ⟨fun c7 => ?_, fun c7 => ?_⟩
      · have t8 : 0 ≤ x8 := ((Jle (by decide) k4).mp c7)
        replace w := w.1 t8
        refine ⟨(ls256 C_h), ?_⟩
        obtain ⟨k12, w⟩ := w
        refine m219 (h := h) (x := x4) C_h (by omega) k12 ?_
        refine ⟨_, rfl, ?_⟩
        try simp only [aI_wAL, fI_wAL, aL_wA, aL_wF, aI_wA_ne, aI_wF_ne, fI_wA_ne, fI_wF_ne, fI_wF_nk, aL_wAL_ne, J_sameA, J_sameF, aL_same, Nat.add_left_cancel_iff, Nat.add_eq_left, Nat.left_eq_add, not_false_eq_true, Nat.reduceEqDiff, Nat.reduceAdd, J_add, J_sub, J_mul, J_neg, J_and, J_or, J_xor, J_shl, J_shr, J_div, J_i2b, J_i2l, J_l2i, J_lcm, J_max, J_min, J_nab, J_nao, rdA, rdF, rdL, wA_fold, wF_fold, wL_fold, wC_fold]
        refine ⟨(ls256 C_h), ?_⟩
        obtain ⟨k16, w⟩ := w
        obtain ⟨k17, w⟩ := w
        obtain ⟨k18, w⟩ := w
        refine m264 (h := h) (c := x7) (p := x8) (r := (fr (aI h 266) x4)) C_h (by omega) k16 k17 k18 ?_
        refine ⟨_, rfl, ?_⟩
        try simp only [aI_wAL, fI_wAL, aL_wA, aL_wF, aI_wA_ne, aI_wF_ne, fI_wA_ne, fI_wF_ne, fI_wF_nk, aL_wAL_ne, J_sameA, J_sameF, aL_same, Nat.add_left_cancel_iff, Nat.add_eq_left, Nat.left_eq_add, not_false_eq_true, Nat.reduceEqDiff, Nat.reduceAdd, J_add, J_sub, J_mul, J_neg, J_and, J_or, J_xor, J_shl, J_shr, J_div, J_i2b, J_i2l, J_l2i, J_lcm, J_max, J_min, J_nab, J_nao, rdA, rdF, rdL, wA_fold, wF_fold, wL_fold, wC_fold]
        refine ⟨(ls256 C_h), _, (lr256_36 C_h), ?_⟩
        obtain ⟨k20, w⟩ := w
        refine ⟨congrArg Prod.fst (ls274 C_h), ixs (ls274 C_h) k20 (by decide), ?_⟩
        refine ⟨fun c21 => ?_, fun c21 => ?_⟩
        · have t22 : aI h 274 (mvd (aI h 266 0) x7 x8 (fr (aI h 266) x4)) < 0 := ((Jlt (rg_toInt _) (by decide)).mp c21)
          replace w := w.1 t22
          refine ⟨(ls256 C_h), _, (lr256_36 C_h), ?_⟩
          refine ⟨congrArg Prod.fst (ls274 C_h), ixs (ls274 C_h) k20 (by decide), ?_⟩
          exact w
        · have t22 : ¬ aI h 274 (mvd (aI h 266 0) x7 x8 (fr (aI h 266) x4)) < 0 := (fun e => c21 ((Jlt (rg_toInt _) (by decide)).mpr e))
          replace w := w.2 t22
          refine ⟨(ls256 C_h), _, (lr256_36 C_h), ?_⟩
          refine ⟨congrArg Prod.fst (ls274 C_h), ixs (ls274 C_h) k20 (by decide), ?_⟩
          obtain ⟨k27, w⟩ := w
          refine ⟨fun c25 => ?_, fun c25 => ?_⟩
          · have t26 : x6 < aI h 274 (mvd (aI h 266 0) x7 x8 (fr (aI h 266) x4)) := ((Jlt k27 (rg_toInt _)).mp c25)
            replace w := w.1 t26
            refine ⟨(ls256 C_h), _, (lr256_36 C_h), ?_⟩
            refine ⟨congrArg Prod.fst (ls274 C_h), ixs (ls274 C_h) k20 (by decide), ?_⟩
            exact w
          · have t26 : ¬ x6 < aI h 274 (mvd (aI h 266 0) x7 x8 (fr (aI h 266) x4)) := (fun e => c25 ((Jlt k27 (rg_toInt _)).mpr e))
            replace w := w.2 t26
            exact w
      · have t8 : ¬ 0 ≤ x8 := (fun e => c7 ((Jle (by decide) k4).mpr e))
        replace w := w.2 t8
        refine ⟨(ls256 C_h), _, (lr256_36 C_h), ?_⟩
        obtain ⟨k30, w⟩ := w
        refine ⟨congrArg Prod.fst (ls274 C_h), ixs (ls274 C_h) k30 (by decide), ?_⟩
        refine ⟨fun c31 => ?_, fun c31 => ?_⟩
        · have t32 : aI h 274 x7 < 0 := ((Jlt (rg_toInt _) (by decide)).mp c31)
          replace w := w.1 t32
          refine ⟨(ls256 C_h), _, (lr256_36 C_h), ?_⟩
          refine ⟨congrArg Prod.fst (ls274 C_h), ixs (ls274 C_h) k30 (by decide), ?_⟩
          exact w
        · have t32 : ¬ aI h 274 x7 < 0 := (fun e => c31 ((Jlt (rg_toInt _) (by decide)).mpr e))
          replace w := w.2 t32
          refine ⟨(ls256 C_h), _, (lr256_36 C_h), ?_⟩
          refine ⟨congrArg Prod.fst (ls274 C_h), ixs (ls274 C_h) k30 (by decide), ?_⟩
          obtain ⟨k37, w⟩ := w
          refine ⟨fun c35 => ?_, fun c35 => ?_⟩
          · have t36 : x6 < aI h 274 x7 := ((Jlt k37 (rg_toInt _)).mp c35)
            replace w := w.1 t36
            refine ⟨(ls256 C_h), _, (lr256_36 C_h), ?_⟩
            refine ⟨congrArg Prod.fst (ls274 C_h), ixs (ls274 C_h) k30 (by decide), ?_⟩
            exact w
          · have t36 : ¬ x6 < aI h 274 x7 := (fun e => c35 ((Jlt k37 (rg_toInt _)).mpr e))
            replace w := w.2 t36
            exact w
    · have t6 : ¬ x8 < 0 := (fun e => c5 ((Jlt k4 (by decide)).mpr e))
      replace w := w.2 t6
      obtain ⟨k41, w⟩ := w
      refine ⟨fun c39 => ?_, fun c39 => ?_⟩
      · have t40 : x8 = x5 := ((Jeq k4 k41).mp c39)
        replace w := w.1 t40
        exact w
      · have t40 : ¬ x8 = x5 := (fun e => c39 ((Jeq k4 k41).mpr e))
        replace w := w.2 t40
        refine ⟨(ls256 C_h), ?_⟩
        obtain ⟨k45, w⟩ := w
        obtain ⟨k46, w⟩ := w
        obtain ⟨k47, w⟩ := w
        refine m260 (h := h) (c := x1) (p := x8) C_h (by omega) k45 k46 k47 ?_
        refine ⟨_, rfl, ?_⟩
        try simp only [aI_wAL, fI_wAL, aL_wA, aL_wF, aI_wA_ne, aI_wF_ne, fI_wA_ne, fI_wF_ne, fI_wF_nk, aL_wAL_ne, J_sameA, J_sameF, aL_same, Nat.add_left_cancel_iff, Nat.add_eq_left, Nat.left_eq_add, not_false_eq_true, Nat.reduceEqDiff, Nat.reduceAdd, J_add, J_sub, J_mul, J_neg, J_and, J_or, J_xor, J_shl, J_shr, J_div, J_i2b, J_i2l, J_l2i, J_lcm, J_max, J_min, J_nab, J_nao, rdA, rdF, rdL, wA_fold, wF_fold, wL_fold, wC_fold]
        refine ⟨(ls256 C_h), ?_⟩
        obtain ⟨k51, w⟩ := w
        refine m218 (h := h) (x := x4) C_h (by omega) k51 ?_
        refine ⟨_, rfl, ?_⟩
        try simp only [aI_wAL, fI_wAL, aL_wA, aL_wF, aI_wA_ne, aI_wF_ne, fI_wA_ne, fI_wF_ne, fI_wF_nk, aL_wAL_ne, J_sameA, J_sameF, aL_same, Nat.add_left_cancel_iff, Nat.add_eq_left, Nat.left_eq_add, not_false_eq_true, Nat.reduceEqDiff, Nat.reduceAdd, J_add, J_sub, J_mul, J_neg, J_and, J_or, J_xor, J_shl, J_shr, J_div, J_i2b, J_i2l, J_l2i, J_lcm, J_max, J_min, J_nab, J_nao, rdA, rdF, rdL, wA_fold, wF_fold, wL_fold, wC_fold]
        refine ⟨fun c52 => ?_, fun c52 => ?_⟩
        · have t53 : dgt (aI h 266 0) x1 x8 = nr (aI h 266) x4 := ((Jeq (dgt_rg _ _ _) (aI_rg _ _ _)).mp c52)
          replace w := w.1 t53
          refine ⟨fun c54 => ?_, fun c54 => ?_⟩
          · have t55 : 0 ≤ x8 := ((Jle (by decide) k4).mp c54)
            replace w := w.1 t55
            refine ⟨(ls256 C_h), ?_⟩
            refine m219 (h := h) (x := x4) C_h (by omega) k51 ?_
            refine ⟨_, rfl, ?_⟩
            try simp only [aI_wAL, fI_wAL, aL_wA, aL_wF, aI_wA_ne, aI_wF_ne, fI_wA_ne, fI_wF_ne, fI_wF_nk, aL_wAL_ne, J_sameA, J_sameF, aL_same, Nat.add_left_cancel_iff, Nat.add_eq_left, Nat.left_eq_add, not_false_eq_true, Nat.reduceEqDiff, Nat.reduceAdd, J_add, J_sub, J_mul, J_neg, J_and, J_or, J_xor, J_shl, J_shr, J_div, J_i2b, J_i2l, J_l2i, J_lcm, J_max, J_min, J_nab, J_nao, rdA, rdF, rdL, wA_fold, wF_fold, wL_fold, wC_fold]
            refine ⟨(ls256 C_h), ?_⟩
            obtain ⟨k62, w⟩ := w
            refine m264 (h := h) (c := x7) (p := x8) (r := (fr (aI h 266) x4)) C_h (by omega) k62 k46 k47 ?_
            refine ⟨_, rfl, ?_⟩
            try simp only [aI_wAL, fI_wAL, aL_wA, aL_wF, aI_wA_ne, aI_wF_ne, fI_wA_ne, fI_wF_ne, fI_wF_nk, aL_wAL_ne, J_sameA, J_sameF, aL_same, Nat.add_left_cancel_iff, Nat.add_eq_left, Nat.left_eq_add, not_false_eq_true, Nat.reduceEqDiff, Nat.reduceAdd, J_add, J_sub, J_mul, J_neg, J_and, J_or, J_xor, J_shl, J_shr, J_div, J_i2b, J_i2l, J_l2i, J_lcm, J_max, J_min, J_nab, J_nao, rdA, rdF, rdL, wA_fold, wF_fold, wL_fold, wC_fold]
            refine ⟨(ls256 C_h), _, (lr256_36 C_h), ?_⟩
            obtain ⟨k64, w⟩ := w
            refine ⟨congrArg Prod.fst (ls274 C_h), ixs (ls274 C_h) k64 (by decide), ?_⟩
            refine ⟨fun c65 => ?_, fun c65 => ?_⟩
            · have t66 : aI h 274 (mvd (aI h 266 0) x7 x8 (fr (aI h 266) x4)) < 0 := ((Jlt (rg_toInt _) (by decide)).mp c65)
              replace w := w.1 t66
              refine ⟨(ls256 C_h), _, (lr256_36 C_h), ?_⟩
              refine ⟨congrArg Prod.fst (ls274 C_h), ixs (ls274 C_h) k64 (by decide), ?_⟩
              exact w
            · have t66 : ¬ aI h 274 (mvd (aI h 266 0) x7 x8 (fr (aI h 266) x4)) < 0 := (fun e => c65 ((Jlt (rg_toInt _) (by decide)).mpr e))
              replace w := w.2 t66
              refine ⟨(ls256 C_h), _, (lr256_36 C_h), ?_⟩
              refine ⟨congrArg Prod.fst (ls274 C_h), ixs (ls274 C_h) k64 (by decide), ?_⟩
              obtain ⟨k71, w⟩ := w
              refine ⟨fun c69 => ?_, fun c69 => ?_⟩
              · have t70 : x6 < aI h 274 (mvd (aI h 266 0) x7 x8 (fr (aI h 266) x4)) := ((Jlt k71 (rg_toInt _)).mp c69)
                replace w := w.1 t70
                refine ⟨(ls256 C_h), _, (lr256_36 C_h), ?_⟩
                refine ⟨congrArg Prod.fst (ls274 C_h), ixs (ls274 C_h) k64 (by decide), ?_⟩
                exact w
              · have t70 : ¬ x6 < aI h 274 (mvd (aI h 266 0) x7 x8 (fr (aI h 266) x4)) := (fun e => c69 ((Jlt k71 (rg_toInt _)).mpr e))
                replace w := w.2 t70
                exact w
          · have t55 : ¬ 0 ≤ x8 := (fun e => c54 ((Jle (by decide) k4).mpr e))
            replace w := w.2 t55
            refine ⟨(ls256 C_h), _, (lr256_36 C_h), ?_⟩
            obtain ⟨k74, w⟩ := w
            refine ⟨congrArg Prod.fst (ls274 C_h), ixs (ls274 C_h) k74 (by decide), ?_⟩
            refine ⟨fun c75 => ?_, fun c75 => ?_⟩
            · have t76 : aI h 274 x7 < 0 := ((Jlt (rg_toInt _) (by decide)).mp c75)
              replace w := w.1 t76
              refine ⟨(ls256 C_h), _, (lr256_36 C_h), ?_⟩
              refine ⟨congrArg Prod.fst (ls274 C_h), ixs (ls274 C_h) k74 (by decide), ?_⟩
              exact w
            · have t76 : ¬ aI h 274 x7 < 0 := (fun e => c75 ((Jlt (rg_toInt _) (by decide)).mpr e))
              replace w := w.2 t76
              refine ⟨(ls256 C_h), _, (lr256_36 C_h), ?_⟩
              refine ⟨congrArg Prod.fst (ls274 C_h), ixs (ls274 C_h) k74 (by decide), ?_⟩
              obtain ⟨k81, w⟩ := w
              refine ⟨fun c79 => ?_, fun c79 => ?_⟩
              · have t80 : x6 < aI h 274 x7 := ((Jlt k81 (rg_toInt _)).mp c79)
                replace w := w.1 t80
                refine ⟨(ls256 C_h), _, (lr256_36 C_h), ?_⟩
                refine ⟨congrArg Prod.fst (ls274 C_h), ixs (ls274 C_h) k74 (by decide), ?_⟩
                exact w
              · have t80 : ¬ x6 < aI h 274 x7 := (fun e => c79 ((Jlt k81 (rg_toInt _)).mpr e))
                replace w := w.2 t80
                exact w
        · have t53 : ¬ dgt (aI h 266 0) x1 x8 = nr (aI h 266) x4 := (fun e => c52 ((Jeq (dgt_rg _ _ _) (aI_rg _ _ _)).mpr e))
          replace w := w.2 t53
          exact w
theorem m271 {X : Cst} {d : Nat} {c b M : Int} {f : Int → Int} {G : (Int → Int) → Prop} {S : Int → Int} {h : AH} {Q : Post} (C : Lay h) (hd : 5 ≤ d) (eS : aI h 266 = S) (W : WF M S) (hM : M ≤ 999) (hn : 0 < S 0) (kf : Kf (S 2).toNat (S 0) f) (ec : c = enc (S 0) (S 2).toNat f) (I : PI S b G (aI h 274)) (hc : 0 ≤ aI h 274 c) (hb : 0 ≤ b ∧ b < S 2)
    (k0 : (∀ g p d q, Lbl S (nightP S) (S 2).toNat (-1) g p d q f → 0 ≤ aI h 274 (enc (S 0) (S 2).toNat g) ∧ aI h 274 (enc (S 0) (S 2).toNat g) ≤ aI h 274 c + wt S b p) → Q (some (.int (J 0))) h)
    (k : ∀ h', Fr (fun c _ => c = 274) h h' → PI S b G (aI h' 274) → PM S (aI h' 274) < PM S (aI h 274) → Q (some (.int (J 1))) h') : Ex X PG d 271 0 [some (.ref 256), some (.int (J c)), some (.int (J b)), none, none, none, none, none, none, none] [] h Q := by
  obtain ⟨d, rfl⟩ : ∃ e, d = e + 1 := ⟨d - 1, by omega⟩
  have b0 := W.1
  unfold WFb at b0
  have W9 : WF 999 S := W.up hM
  have hn8 : 0 < S 0 ∧ S 0 ≤ 8 := by omega
  have hm5 : (S 2).toNat ≤ 5 := by omega
  have pw := pw_4k hn8.1 hn8.2 (m := (S 2).toNat) (by omega)
  have eb : ∀ g, Kf (S 2).toNat (S 0) g → 0 ≤ enc (S 0) (S 2).toNat g ∧ enc (S 0) (S 2).toNat g < S 0 ^ (S 2).toNat := fun g kg => enc_b hn _ g kg.1
  have cb := eb f kf
  rw [← ec] at cb
  have dgc : ∀ p : Int, 0 ≤ p → p < S 2 → dgt (S 0) c p = f p := fun p p0 p1 => by rw [ec]; exact dgt_enc hn8 kf (by omega)
  have mv : ∀ g, Kf (S 2).toNat (S 0) g → ∀ p r : Int, 0 ≤ p → p < S 2 → mvd (S 0) (enc (S 0) (S 2).toNat g) p r = enc (S 0) (S 2).toNat (fu g p r) := fun g kg p r p0 p1 => mvd_enc hn8 hm5 kg (by omega) r
  have ks : ∀ h', Fr (fun c _ => c = 274) h h' → aI h' 266 = S := fun h' F => by rw [F.a 266 (fun k z => by omega)]; exact eS
  -- before: labels below (e, p, q) looked at
  have lo : ∀ (z : Nat) (e x : Int) (h' : AH) (l5 l6 l7 l8 l9 : Option Value), S 1 - e = z → 0 ≤ e → Fr (fun c _ => c = 274) h h' → PI S b G (aI h' 274) → 0 ≤ aI h' 274 c → ((x = 0 ∧ h' = h ∧ ∀ g p d q, d < e → Lbl S (nightP S) (S 2).toNat (-1) g p d q f → 0 ≤ aI h 274 (enc (S 0) (S 2).toNat g) ∧ aI h 274 (enc (S 0) (S 2).toNat g) ≤ aI h 274 c + wt S b p) ∨ (x = 1 ∧ PM S (aI h' 274) < PM S (aI h 274))) → Ex X PG (d + 1) 271 5 [some (.ref 256), some (.int (J c)), some (.int (J b)), some (.int (J x)), some (.int (J e)), l5, l6, l7, l8, l9] [] h' Q := by
    intro z
    induction z with
    | zero =>
      intro e x h' l5 l6 l7 l8 l9 e1 e0 F I' hc' st
      refine r271_5 (F.C C) ?_
      rw [ks h' F]
      refine ⟨by omega, fun _ => ⟨by omega, ?_⟩, fun y => absurd (by omega) y⟩
      rcases st with ⟨rfl, rfl, a⟩ | ⟨rfl, a⟩
      · exact k0 (fun g p d q hl => a g p d q (by have := Lbl_rg hl; omega) hl)
      · exact k h' F I' a
    | succ z ih =>
      intro e x h' l5 l6 l7 l8 l9 e1 e0 F I' hc' st
      have dk := dr_ok W (d := e) (by omega)
      refine r271_5 (F.C C) ?_
      rw [ks h' F]
      refine ⟨by omega, fun y => absurd y (by omega), fun _ => ?_⟩
      have l1 : ∀ (y : Nat) (p x : Int) (h' : AH) (l6 l7 l8 l9 : Option Value), S 2 - p = y → 0 ≤ p → Fr (fun c _ => c = 274) h h' → PI S b G (aI h' 274) → 0 ≤ aI h' 274 c → ((x = 0 ∧ h' = h ∧ ∀ g p' d q, (d < e ∨ (d = e ∧ p' < p)) → Lbl S (nightP S) (S 2).toNat (-1) g p' d q f → 0 ≤ aI h 274 (enc (S 0) (S 2).toNat g) ∧ aI h 274 (enc (S 0) (S 2).toNat g) ≤ aI h 274 c + wt S b p') ∨ (x = 1 ∧ PM S (aI h' 274) < PM S (aI h 274))) → Ex X PG (d + 1) 271 19 [some (.ref 256), some (.int (J c)), some (.int (J b)), some (.int (J x)), some (.int (J e)), some (.int (J p)), l6, l7, l8, l9] [] h' Q := by
        intro y
        induction y with
        | zero =>
          intro p x h' l6 l7 l8 l9 y1 p0 F I' hc' st
          refine r271_19 (F.C C) (by omega) ?_
          rw [ks h' F]
          refine ⟨by omega, fun _ => ih (e + 1) x h' _ _ _ _ _ (by omega) (by omega) F I' hc' ?_, fun y => absurd (by omega) y⟩
          rcases st with ⟨rfl, rfl, a⟩ | st
          · exact Or.inl ⟨rfl, rfl, fun g p' d q hd hl => a g p' d q (by have := Lbl_rg hl; omega) hl⟩
          · exact Or.inr st
        | succ y ih2 =>
          intro p x h' l6 l7 l8 l9 y1 p0 F I' hc' st
          refine r271_19 (F.C C) (by omega) ?_
          rw [ks h' F]
          refine ⟨by omega, fun y => absurd y (by omega), fun _ => ⟨W9, by omega, fun op => ?_, fun op => ⟨by omega, by omega, hn8, by omega, ?_⟩⟩⟩
          · refine ih (e + 1) x h' _ _ _ _ _ (by omega) (by omega) F I' hc' ?_
            rcases st with ⟨rfl, rfl, a⟩ | st
            · refine Or.inl ⟨rfl, rfl, fun g p' d q hd hl => ?_⟩
              by_cases ed : d = e
              · subst ed; exact absurd hl.2.1 op
              · exact a g p' d q (by omega) hl
            · exact Or.inr st
          rw [dgc p p0 (by omega)]
          refine ⟨fun c1 => ⟨by omega, by omega, ?_⟩, fun c1 => ?_⟩
          · have k1 := kf.fu (p := p) (by omega) dk.1
            have e1' : mvd (S 0) c p (nr S e) = enc (S 0) (S 2).toNat (fu f p (nr S e)) := by rw [ec]; exact mv f kf p _ p0 (by omega)
            rw [e1']
            have eb1 := eb _ k1
            have wb := wt_b W b (p := p) (by omega)
            have crf : CR S (nightP S) (S 2).toNat b G (aI h' 274 c) f := by have := I'.1 f kf; rw [← ec] at this; exact this hc'
            have bd := I'.2.2 c cb.1 cb.2
            -- with n told
            have l2 : ∀ (n : Int), n = aI h' 274 c + wt S b p → Ex X PG (d + 1) 271 102 [some (.ref 256), some (.int (J c)), some (.int (J b)), some (.int (J x)), some (.int (J e)), some (.int (J p)), some (.int (J n)), some (.int (J (enc (S 0) (S 2).toNat (fu f p (nr S e))))), some (.int (J (-1))), l9] [] h' Q := by
              intro n en
              have cbn := cnt_b (fun y => 0 ≤ aI h' 274 y) (i := S 0 ^ (S 2).toNat) (by omega)
              have l3 : ∀ (u : Nat) (q x : Int) (h'' : AH) (l9 : Option Value), S 2 - q = u → -1 ≤ q → Fr (fun c _ => c = 274) h h'' → PI S b G (aI h'' 274) → 0 ≤ aI h'' 274 c → n ≤ 50 * cnt (fun y => 0 ≤ aI h'' 274 y) (S 0 ^ (S 2).toNat) + 50 → ((x = 0 ∧ h'' = h ∧ n = aI h 274 c + wt S b p ∧ ∀ g p' d q', (d < e ∨ (d = e ∧ (p' < p ∨ (p' = p ∧ q' < q)))) → Lbl S (nightP S) (S 2).toNat (-1) g p' d q' f → 0 ≤ aI h 274 (enc (S 0) (S 2).toNat g) ∧ aI h 274 (enc (S 0) (S 2).toNat g) ≤ aI h 274 c + wt S b p') ∨ (x = 1 ∧ PM S (aI h'' 274) < PM S (aI h 274))) → Ex X PG (d + 1) 271 102 [some (.ref 256), some (.int (J c)), some (.int (J b)), some (.int (J x)), some (.int (J e)), some (.int (J p)), some (.int (J n)), some (.int (J (enc (S 0) (S 2).toNat (fu f p (nr S e))))), some (.int (J q)), l9] [] h'' Q := by
                intro u
                induction u with
                | zero =>
                  intro q x h'' l9 u1 q0 F I'' hc'' nb st
                  refine r271_102 (F.C C) (by omega) ?_
                  rw [ks h'' F]
                  refine ⟨by omega, fun _ => ih2 (p + 1) x h'' _ _ _ _ (by omega) (by omega) F I'' hc'' ?_, fun y => absurd (by omega) y⟩
                  rcases st with ⟨rfl, rfl, _, a⟩ | st
                  · exact Or.inl ⟨rfl, rfl, fun g p' d q' hd hl => a g p' d q' (by have := Lbl_rg hl; omega) hl⟩
                  · exact Or.inr st
                | succ u ih3 =>
                  intro q x h'' l9 u1 q0 F I'' hc'' nb st
                  have cbn := cnt_b (fun y => 0 ≤ aI h'' 274 y) (i := S 0 ^ (S 2).toNat) (by omega)
                  have n0 : 0 ≤ n := by omega
                  have nr' : -2147483648 ≤ n ∧ n < 2147483648 := by omega
                  -- nobody by q
                  have no : (∀ g, ¬ Lbl S (nightP S) (S 2).toNat (-1) g p e q f) → ∀ l9, Ex X PG (d + 1) 271 102 [some (.ref 256), some (.int (J c)), some (.int (J b)), some (.int (J x)), some (.int (J e)), some (.int (J p)), some (.int (J n)), some (.int (J (enc (S 0) (S 2).toNat (fu f p (nr S e))))), some (.int (J (q + 1))), l9] [] h'' Q := by
                    intro no l9
                    refine ih3 (q + 1) x h'' l9 (by omega) (by omega) F I'' hc'' nb ?_
                    rcases st with ⟨rfl, rfl, en', a⟩ | st
                    · refine Or.inl ⟨rfl, rfl, en', fun g p' d q' hd hl => ?_⟩
                      by_cases z : d = e ∧ p' = p ∧ q' = q
                      · obtain ⟨rfl, rfl, rfl⟩ := z; exact absurd hl (no g)
                      · exact a g p' d q' (by omega) hl
                    · exact Or.inr st
                  -- one by q, at g
                  have ye : ∀ g, Lbl S (nightP S) (S 2).toNat (-1) g p e q f → ∀ l9, ((aI h'' 274 (enc (S 0) (S 2).toNat g) < 0 → Ex X PG (d + 1) 271 102 [some (.ref 256), some (.int (J c)), some (.int (J b)), some (.int (J 1)), some (.int (J e)), some (.int (J p)), some (.int (J n)), some (.int (J (enc (S 0) (S 2).toNat (fu f p (nr S e))))), some (.int (J (q + 1))), l9] [] (wA h'' 274 (enc (S 0) (S 2).toNat g) n) Q) ∧ (¬ aI h'' 274 (enc (S 0) (S 2).toNat g) < 0 → (-2147483648 ≤ n ∧ n < 2147483648) ∧ ((n < aI h'' 274 (enc (S 0) (S 2).toNat g) → Ex X PG (d + 1) 271 102 [some (.ref 256), some (.int (J c)), some (.int (J b)), some (.int (J 1)), some (.int (J e)), some (.int (J p)), some (.int (J n)), some (.int (J (enc (S 0) (S 2).toNat (fu f p (nr S e))))), some (.int (J (q + 1))), l9] [] (wA h'' 274 (enc (S 0) (S 2).toNat g) n) Q) ∧ (¬ n < aI h'' 274 (enc (S 0) (S 2).toNat g) → Ex X PG (d + 1) 271 102 [some (.ref 256), some (.int (J c)), some (.int (J b)), some (.int (J x)), some (.int (J e)), some (.int (J p)), some (.int (J n)), some (.int (J (enc (S 0) (S 2).toNat (fu f p (nr S e))))), some (.int (J (q + 1))), l9] [] h'' Q)))) := by
                    intro g hl l9
                    have kg := Lbl_Kb W hl kf
                    have ebg := eb g kg
                    have crg : CR S (nightP S) (S 2).toNat b G n g := by rw [en]; exact crf.s hl
                    have wr : (aI h'' 274 (enc (S 0) (S 2).toNat g) < 0 ∨ n < aI h'' 274 (enc (S 0) (S 2).toNat g)) → Ex X PG (d + 1) 271 102 [some (.ref 256), some (.int (J c)), some (.int (J b)), some (.int (J 1)), some (.int (J e)), some (.int (J p)), some (.int (J n)), some (.int (J (enc (S 0) (S 2).toNat (fu f p (nr S e))))), some (.int (J (q + 1))), l9] [] (wA h'' 274 (enc (S 0) (S 2).toNat g) n) Q := by
                      intro cc
                      obtain ⟨i1, i2, i3⟩ := PI_set W hn I'' kg rfl crg n0 nb cc
                      have ea : aI (wA h'' 274 (enc (S 0) (S 2).toNat g) n) 274 = uu_ (aI h'' 274) (enc (S 0) (S 2).toNat g) n := aI_wA nr'
                      refine ih3 (q + 1) 1 _ l9 (by omega) (by omega) (F.wA rfl) (by rw [ea]; exact i1) ?_ (by rw [ea]; omega) (Or.inr ⟨rfl, ?_⟩)
                      · rw [ea]
                        by_cases z : c = enc (S 0) (S 2).toNat g
                        · rw [← z, uu_eq]; exact n0
                        · rw [uu_ne (by omega) (by omega) z]; exact hc''
                      · rw [ea]
                        rcases st with ⟨_, rfl, _⟩ | ⟨_, st⟩
                        · exact i2
                        · omega
                    refine ⟨fun c2 => wr (Or.inl c2), fun c2 => ⟨nr', fun c3 => wr (Or.inr c3), fun c3 => ?_⟩⟩
                    refine ih3 (q + 1) x h'' l9 (by omega) (by omega) F I'' hc'' nb ?_
                    rcases st with ⟨rfl, rfl, en', a⟩ | st
                    · refine Or.inl ⟨rfl, rfl, en', fun g' p' d q' hd hl' => ?_⟩
                      by_cases z : d = e ∧ p' = p ∧ q' = q
                      · obtain ⟨rfl, rfl, rfl⟩ := z
                        have gg : g' = g := by
                          obtain ⟨_, _, _, _, y1⟩ := Lbl_back.mp hl
                          obtain ⟨_, _, _, _, y2⟩ := Lbl_back.mp hl'
                          rcases y1 with ⟨w1, rfl⟩ | ⟨w1, _, _, rfl⟩
                          · rcases y2 with ⟨_, rfl⟩ | ⟨w2, _⟩
                            · rfl
                            · omega
                          · rcases y2 with ⟨w2, _⟩ | ⟨_, _, _, rfl⟩
                            · omega
                            · rfl
                        subst gg
                        omega
                      · exact a g' p' d q' (by omega) hl'
                    · exact Or.inr st
                  refine r271_102 (F.C C) (by omega) ?_
                  rw [ks h'' F]
                  refine ⟨by omega, fun y => absurd y (by omega), fun _ => ⟨fun cq => ⟨fun y => absurd y (by omega), fun _ => ⟨by omega, ?_⟩⟩, fun cq => ⟨by omega, fun c2 => ?_, fun c2 => ⟨by omega, by omega, hn8, by omega, ?_⟩⟩⟩⟩
                  · have q1 : q = -1 := by omega
                    exact ye _ (Lbl_back.mpr ⟨by omega, op, by omega, c1, Or.inl ⟨q1, rfl⟩⟩) _
                  · refine no (fun g hl => ?_) _
                    obtain ⟨_, _, _, _, y1⟩ := Lbl_back.mp hl
                    rcases y1 with ⟨w1, _⟩ | ⟨_, w1, _⟩
                    · omega
                    · exact w1 c2
                  rw [dgc q (by omega) (by omega)]
                  refine ⟨fun c3 => ⟨fun _ => ?_, fun y => absurd (by omega) y⟩, fun c3 => ?_⟩
                  · have k2 := k1.fu (p := q) (by omega) dk.2
                    have eb2 := eb _ k2
                    rw [mv _ k1 q _ (by omega) (by omega)]
                    exact ⟨by omega, by omega, ye _ (Lbl_back.mpr ⟨by omega, op, by omega, c1, Or.inr ⟨by omega, c2, c3, rfl⟩⟩) _⟩
                  · refine no (fun g hl => ?_) _
                    obtain ⟨_, _, _, _, y1⟩ := Lbl_back.mp hl
                    rcases y1 with ⟨w1, _⟩ | ⟨_, _, w1, _⟩
                    · omega
                    · exact c3 w1
              refine l3 (S 2 + 1).toNat (-1) x h' l9 (by omega) (by omega) F I' hc' (by omega) ?_
              rcases st with ⟨rfl, rfl, a⟩ | st
              · exact Or.inl ⟨rfl, rfl, en, fun g p' d q' hd hl => a g p' d q' (by have := Lbl_rg hl; omega) hl⟩
              · exact Or.inr st
            refine ⟨fun c2 => ⟨by omega, ?_⟩, fun c2 => ?_⟩
            · exact l2 _ (by unfold wt; rw [if_neg c2])
            · exact l2 _ (by unfold wt; rw [if_pos c2])
          · refine ih2 (p + 1) x h' _ _ _ _ (by omega) (by omega) F I' hc' ?_
            rcases st with ⟨rfl, rfl, a⟩ | st
            · refine Or.inl ⟨rfl, rfl, fun g p' d q hd hl => ?_⟩
              by_cases ed : d = e ∧ p' = p
              · obtain ⟨rfl, rfl⟩ := ed
                obtain ⟨_, _, _, w1, _⟩ := Lbl_back.mp hl
                exact absurd w1 c1
              · exact a g p' d q (by omega) hl
            · exact Or.inr st
      refine l1 (S 2).toNat 0 x h' _ _ _ _ (by omega) (by omega) F I' hc' ?_
      rcases st with ⟨rfl, rfl, a⟩ | st
      · exact Or.inl ⟨rfl, rfl, fun g p' d q hd hl => a g p' d q (by have := Lbl_rg hl; omega) hl⟩
      · exact Or.inr st
  refine r271_0 C ?_
  exact lo (S 1).toNat 0 0 h _ _ _ _ _ (by omega) (by omega) Fr.rf I hc (Or.inl ⟨rfl, rfl, fun g p d q hd hl => by have := Lbl_rg hl; omega⟩)
