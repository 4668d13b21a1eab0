/-! THE CLASS: a search for told ones. -/
def GRo (h : AH) (pl : Nat) : Prop := Lay h ∧ PlanAt h pl ∧ hR h 52 0 = some pl
theorem and_8 {a b A B : Nat} (ha : a < 8) (hb : b < 8) : (a + 8 * A) &&& (b + 8 * B) = (a &&& b) + 8 * (A &&& B) := by
  have e1 : a + 8 * A = 2 ^ 3 * A + a := by omega
  have e2 : b + 8 * B = 2 ^ 3 * B + b := by omega
  have e3 : (a &&& b) + 8 * (A &&& B) = 2 ^ 3 * (A &&& B) + (a &&& b) := by omega
  have l3 : a &&& b < 2 ^ 3 := Nat.lt_of_le_of_lt Nat.and_le_left ha
  rw [e1, e2, e3]
  refine Nat.eq_of_testBit_eq fun j => ?_
  rw [Nat.testBit_and, Nat.testBit_two_pow_mul_add _ ha, Nat.testBit_two_pow_mul_add _ hb, Nat.testBit_two_pow_mul_add _ l3]
  by_cases c : j < 3
  · rw [if_pos c, if_pos c, if_pos c, Nat.testBit_and]
  · rw [if_neg c, if_neg c, if_neg c, Nat.testBit_and]
/-- only those of a set -/
noncomputable def onl (s : Int) (f : Int → Int) : Int → Int := fun p => pI (bt s p) (f p) 0
theorem mask_enc {s : Int} : ∀ (m : Nat) (f g : Int → Int) (P : Int → Prop), (∀ p : Int, 0 ≤ p → p < m → 0 ≤ f p ∧ f p < 8) → (∀ p : Int, 0 ≤ p → p < m → g p = pI (P p) 7 0) → ((enc 8 m f).toNat &&& (enc 8 m g).toNat : Nat) = (enc 8 m (fun p => pI (P p) (f p) 0)).toNat := by
  intro m
  induction m with
  | zero => intro f g P _ _; show (0 : Int).toNat &&& (0 : Int).toNat = (0 : Int).toNat; decide
  | succ m ih =>
    intro f g P hf hg
    have i := ih (fun p => f (p + 1)) (fun p => g (p + 1)) (fun p => P (p + 1)) (fun p p0 p1 => hf (p + 1) (by omega) (by omega)) (fun p p0 p1 => hg (p + 1) (by omega) (by omega))
    have f0 := hf 0 (by omega) (by omega)
    have g0 := hg 0 (by omega) (by omega)
    have gb : ∀ p : Int, 0 ≤ p → p < m → 0 ≤ g (p + 1) ∧ g (p + 1) < 8 := fun p p0 p1 => by
      rw [hg (p + 1) (by omega) (by omega)]
      by_cases c : P (p + 1)
      · rw [pI_pos c]; decide
      · rw [pI_neg c]; decide
    have cb : ∀ p : Int, 0 ≤ p → p < m → 0 ≤ pI (P (p + 1)) (f (p + 1)) 0 ∧ pI (P (p + 1)) (f (p + 1)) 0 < 8 := fun p p0 p1 => by
      by_cases c : P (p + 1)
      · rw [pI_pos c]; exact hf (p + 1) (by omega) (by omega)
      · rw [pI_neg c]; decide
    have ef := enc_b (b := 8) (by decide) m (fun p => f (p + 1)) (fun p p0 p1 => hf (p + 1) (by omega) (by omega))
    have eg := enc_b (b := 8) (by decide) m (fun p => g (p + 1)) gb
    have eh := enc_b (b := 8) (by decide) m (fun p => pI (P (p + 1)) (f (p + 1)) 0) cb
    have g08 : 0 ≤ g 0 ∧ g 0 < 8 := by
      rw [g0]
      by_cases c : P 0
      · rw [pI_pos c]; decide
      · rw [pI_neg c]; decide
    have h08 : 0 ≤ pI (P 0) (f 0) 0 ∧ pI (P 0) (f 0) 0 < 8 := by
      by_cases c : P 0
      · rw [pI_pos c]; exact f0
      · rw [pI_neg c]; decide
    show ((f 0 + 8 * enc 8 m (fun p => f (p + 1))).toNat &&& (g 0 + 8 * enc 8 m (fun p => g (p + 1))).toNat) = (pI (P 0) (f 0) 0 + 8 * enc 8 m (fun p => pI (P (p + 1)) (f (p + 1)) 0)).toNat
    rw [show (f 0 + 8 * enc 8 m (fun p => f (p + 1))).toNat = (f 0).toNat + 8 * (enc 8 m (fun p => f (p + 1))).toNat by omega, show (g 0 + 8 * enc 8 m (fun p => g (p + 1))).toNat = (g 0).toNat + 8 * (enc 8 m (fun p => g (p + 1))).toNat by omega, and_8 (by omega) (by omega), i, show (pI (P 0) (f 0) 0 + 8 * enc 8 m (fun p => pI (P (p + 1)) (f (p + 1)) 0)).toNat = (pI (P 0) (f 0) 0).toNat + 8 * (enc 8 m (fun p => pI (P (p + 1)) (f (p + 1)) 0)).toNat by omega]
    congr 1
    rw [g0]
    by_cases c : P 0
    · rw [pI_pos c, pI_pos c, show (7 : Int).toNat = 2 ^ 3 - 1 from rfl, Nat.and_two_pow_sub_one_eq_mod]
      exact Nat.mod_eq_of_lt (by omega)
    · rw [pI_neg c, pI_neg c]; exact Nat.and_zero _
/-- a state's bits in the mask are the wanted ones -/
theorem want_iff {m : Nat} (hm : m ≤ 5) {f v : Int → Int} {P : Int → Prop} (kf : Kf m 8 f) (hv : ∀ p : Int, 0 ≤ p → p < m → 0 ≤ v p ∧ v p < 8) (hP : ∀ p : Int, P p → 0 ≤ p ∧ p < m) : iand (enc 8 m f) (enc 8 m (fun p => pI (P p) 7 0)) = enc 8 m (fun p => pI (P p) (v p) 0) ↔ ∀ p, P p → f p = v p := by
  have pw := pw_32k (b := 8) (by decide) (by decide) hm
  have kk : ∀ u : Int → Int, (∀ p : Int, 0 ≤ p → p < m → 0 ≤ u p ∧ u p < 8) → Kf m 8 (fun p => pI (P p) (u p) 0) := by
    intro u hu
    refine ⟨fun p p0 p1 => ?_, fun p hp => ?_⟩
    · by_cases c : P p
      · show 0 ≤ pI (P p) (u p) 0 ∧ pI (P p) (u p) 0 < 8
        rw [pI_pos c]; exact hu p p0 p1
      · show 0 ≤ pI (P p) (u p) 0 ∧ pI (P p) (u p) 0 < 8
        rw [pI_neg c]; decide
    · show pI (P p) (u p) 0 = 0
      rw [pI_neg (fun z => by have := hP p z; omega)]
  have k7 := kk (fun _ => 7) (fun _ _ _ => by decide)
  have kv := kk v hv
  have kff := kk f kf.1
  have ef := enc_b (b := 8) (by decide) m f kf.1
  have e7 := enc_b (b := 8) (by decide) m _ k7.1
  have ev := enc_b (b := 8) (by decide) m _ kv.1
  have eff := enc_b (b := 8) (by decide) m _ kff.1
  have ma := mask_enc (s := 0) m f (fun p => pI (P p) 7 0) P kf.1 (fun _ _ _ => rfl)
  have io : iand (enc 8 m f) (enc 8 m (fun p => pI (P p) 7 0)) = enc 8 m (fun p => pI (P p) (f p) 0) := by
    have := iand_nat (m := (enc 8 m f).toNat) (n := (enc 8 m (fun p => pI (P p) 7 0)).toNat) (by omega)
    rw [ma, show (((enc 8 m f).toNat : Nat) : Int) = enc 8 m f by omega, show (((enc 8 m (fun p => pI (P p) 7 0)).toNat : Nat) : Int) = enc 8 m (fun p => pI (P p) 7 0) by omega] at this
    rw [this]; omega
  rw [io]
  constructor
  · intro e p hp
    have := congrFun (enc_inj (b := 8) (by decide) kff kv e) p
    have this : pI (P p) (f p) 0 = pI (P p) (v p) 0 := this
    rw [pI_pos hp, pI_pos hp] at this
    exact this
  · intro e
    refine enc_cong m _ _ (fun p p0 p1 => ?_)
    by_cases c : P p
    · show pI (P p) (f p) 0 = pI (P p) (v p) 0
      rw [pI_pos c, pI_pos c]; exact e p c
    · show pI (P p) (f p) 0 = pI (P p) (v p) 0
      rw [pI_neg c, pI_neg c]
theorem CS.fr2 {T : Nat → Nat → Prop} {h h' : AH} {pl : Nat} {S : Int → Int} (R : CS h pl S) (F : Fr T h h') (t : ∀ c k, T c k → (c < 52 ∨ 72 < c) ∧ (c < pl ∨ pl + 10 < c)) : CS h' pl S := by
  refine ⟨R.1, R.2.1.fr F (fun c k z => (t c k z).2), R.2.2.1.fr F (fun c k z => by have := t c k z; omega), ?_, ?_⟩
  · rw [F.f 52 4 (fun z => by have := t _ _ z; omega)]; exact R.2.2.2.1
  · rw [F.a 70 (fun k z => by have := t _ _ z; omega), F.a 71 (fun k z => by have := t _ _ z; omega), F.a 72 (fun k z => by have := t _ _ z; omega)]; exact R.2.2.2.2
theorem CS.gx {T U : Nat → Nat → Prop} {h h' : AH} {pl : Nat} {S : Int → Int} (R : CS h pl S) (X : Gx T U h h') (hp : pl + 10 < hn h) (h281 : 281 ≤ hn h) (t : ∀ c k, T c k → (c < 52 ∨ 72 < c) ∧ (c < pl ∨ pl + 10 < c)) : CS h' pl S :=
  CS.fr2 (h := ov h h') (show CS (ov h h') pl S from R) X.ov (fun c k z => by rcases z with z | z; exact t c k z; omega)
theorem PlanAt.gx {T U : Nat → Nat → Prop} {h h' : AH} {pl : Nat} (K : PlanAt h pl) (X : Gx T U h h') (hp : pl + 10 < hn h) (u : ∀ k, ¬ U pl k) : PlanAt h' pl := by
  obtain ⟨a1, a2, a3, a4, a5, a6, a7, a8, a9, a10, a11, a12⟩ := K
  unfold PlanAt
  rw [X.2.1 pl (by omega), X.2.1 (pl + 1) (by omega), X.2.1 (pl + 2) (by omega), X.2.1 (pl + 3) (by omega), X.2.1 (pl + 4) (by omega), X.2.1 (pl + 5) (by omega), X.2.1 (pl + 6) (by omega), X.2.1 (pl + 7) (by omega), X.2.1 (pl + 8) (by omega), X.2.1 (pl + 9) (by omega), X.2.1 (pl + 10) (by omega)]
  have r : ∀ k, hR h' pl k = hR h pl k := fun k => X.2.2.1 pl k (by omega) (u k)
  rw [r, r, r, r, r, r, r, r, r, r]
  exact ⟨a1, a2, a3, a4, a5, a6, a7, a8, a9, a10, a11, a12⟩
/-- the empty log -/
theorem LG_0 {h : AH} {mk qu ln m : Nat} {n : Int} (f6 : fI h 247 6 = 0) (mz : ∀ x : Int, 0 ≤ x → x < ln → aI h mk x = 0) (st : Int → Int → Int) (pa : Int → Int) (la : Int → Int × Int × Int) : LG h mk qu ln m n st pa la 0 0 := by
  refine ⟨f6, fun i i0 i1 => by omega, fun i i0 i1 => by omega, fun i i0 i1 => by omega, fun x x0 x1 z => absurd (mz x x0 x1) z, ?_⟩
  have : cnt (fun x => ¬ aI h mk x = 0) ln = cnt (fun _ => False) ln := cnt_cong (fun q q0 q1 => ⟨fun z => z (mz q q0 q1), fun z => z.elim⟩)
  rw [this]
  unfold cnt
  exact (sumN_bI_0 _ (fun _ _ _ z => z)).symm
-- OutwardDoors.isSet(I)Z at 0
set_option maxRecDepth 20000 in
set_option maxHeartbeats 4000000 in
theorem r112_0 {X : Cst} {d : Nat} {x1 : Int} {pl : Nat} {S : Int → Int} {h : AH} {Q : Post} (C_h : Lay h) (K_h_0 : PlanAt h pl) (P_h : hR h 52 0 = some pl) (hd : 1 ≤ d)
  (w : (CS h pl S) ∧ ((¬ (0 < S 0) → Q (some (.int (J 0))) h) ∧ ((0 < S 0) → (-2147483648 ≤ x1 ∧ x1 < 2147483648) ∧ ((x1 < 0 → Q (some (.int (J 0))) h) ∧ (¬ x1 < 0 → ((shl 1 (iand (fI h pl 2) 31) ≤ x1 → Q (some (.int (J 0))) h) ∧ (¬ shl 1 (iand (fI h pl 2) 31) ≤ x1 → Q (some (.int (J 1))) h))))))) :
    Ex X PG (d + 1) 112 0 [some (.ref 0), some (.int (J x1))] [] h Q := by
  refine wpx_ok (cut := []) 16 d 112 0 _ _ _ _ ?_
  show hs h 0 = (0, 10) ∧ Ex X PG d 86 0 [some (.ref 0)] [] h (fun v1 h2 => ∃ r3, v1 = some (.int r3) ∧ ((r3 = (J 0) → (J 0 = J 0 ∨ J 0 = J 1) ∧ Q (some (.int (J 0))) h2) ∧ (¬ (r3 = (J 0)) → (((J x1) < (J 0) → (J 0 = J 0 ∨ J 0 = J 1) ∧ Q (some (.int (J 0))) h2) ∧ (¬ ((J x1) < (J 0)) → hs h2 0 = (0, 10) ∧ ∃ q10, hR h2 0 5 = some q10 ∧ hs h2 q10 = (0, 6) ∧ ∃ q11, hR h2 q10 0 = some q11 ∧ hs h2 q11 = (0, 2) ∧ ((((J 1) <<< ((hF h2 q11 2) &&& J 31)) ≤ (J x1) → (J 0 = J 0 ∨ J 0 = J 1) ∧ Q (some (.int (J 0))) h2) ∧ (¬ (((J 1) <<< ((hF h2 q11 2) &&& J 31)) ≤ (J x1)) → (J 1 = J 0 ∨ J 1 = J 1) ∧ Q (some (.int (J 1))) h2)))))))
  try simp only [aI_wAL, fI_wAL, aL_wA, aL_wF, aI_wA_ne, aI_wF_ne, fI_wA_ne, fI_wF_ne, fI_wF_nk, aL_wAL_ne, J_sameA, J_sameF, aL_same, Nat.add_left_cancel_iff, Nat.add_eq_left, Nat.left_eq_add, not_false_eq_true, Nat.reduceEqDiff, Nat.reduceAdd, J_add, J_sub, J_mul, J_neg, J_and, J_or, J_xor, J_shl, J_shr, J_div, J_i2b, J_i2l, J_l2i, J_lcm, J_max, J_min, J_nab, J_nao, rdA, rdF, rdL, wA_fold, wF_fold, wL_fold, wC_fold]
  refine ⟨(ls0 C_h), ?_⟩
  obtain ⟨k4, w⟩ := w
  refine m86 (h := h)  (S := S) (pl := pl) C_h P_h K_h_0 (by omega) k4 ?_
  refine ⟨_, rfl, ?_⟩
  try simp only [aI_wAL, fI_wAL, aL_wA, aL_wF, aI_wA_ne, aI_wF_ne, fI_wA_ne, fI_wF_ne, fI_wF_nk, aL_wAL_ne, J_sameA, J_sameF, aL_same, Nat.add_left_cancel_iff, Nat.add_eq_left, Nat.left_eq_add, not_false_eq_true, Nat.reduceEqDiff, Nat.reduceAdd, J_add, J_sub, J_mul, J_neg, J_and, J_or, J_xor, J_shl, J_shr, J_div, J_i2b, J_i2l, J_l2i, J_lcm, J_max, J_min, J_nab, J_nao, rdA, rdF, rdL, wA_fold, wF_fold, wL_fold, wC_fold]
  refine ⟨fun c5 => ?_, fun c5 => ?_⟩
  · have t6 : ¬ (0 < S 0) := ((bI0 _).mp c5)
    replace w := w.1 t6
    exact ⟨(Or.inl (by trivial)), w⟩
  · have t6 : (0 < S 0) := (Classical.byContradiction fun n => c5 ((bI0 _).mpr n))
    replace w := w.2 t6
    obtain ⟨k9, w⟩ := w
    refine ⟨fun c7 => ?_, fun c7 => ?_⟩
    · have t8 : x1 < 0 := ((Jlt k9 (by decide)).mp c7)
      replace w := w.1 t8
      exact ⟨(Or.inl (by trivial)), w⟩
    · have t8 : ¬ x1 < 0 := (fun e => c7 ((Jlt k9 (by decide)).mpr e))
      replace w := w.2 t8
      refine ⟨(ls0 C_h), _, (lr0_5 C_h), ?_⟩
      refine ⟨(ls52 C_h), _, P_h, ?_⟩
      refine ⟨(plan_0 K_h_0), ?_⟩
      refine ⟨fun c12 => ?_, fun c12 => ?_⟩
      · have t13 : shl 1 (iand (fI h pl 2) 31) ≤ x1 := ((Jle (rg_toInt _) k9).mp c12)
        replace w := w.1 t13
        exact ⟨(Or.inl (by trivial)), w⟩
      · have t13 : ¬ shl 1 (iand (fI h pl 2) 31) ≤ x1 := (fun e => c12 ((Jle (rg_toInt _) k9).mpr e))
        replace w := w.2 t13
        exact ⟨(Or.inr (by trivial)), w⟩
theorem m112 {X : Cst} {d pl : Nat} {N s : Int} {S : Int → Int} {h : AH} {Q : Post} (C : Lay h) (P : hR h 52 0 = some pl) (K : PlanAt h pl) (hd : 2 ≤ d) (R : CS h pl S) (W : WF N S) (g : -2147483648 ≤ s ∧ s < 2147483648) (k : Q (some (.int (J (bI (setP S s))))) h) : Ex X PG d 112 0 [some (.ref 0), some (.int (J s))] [] h Q := by
  obtain ⟨d, rfl⟩ : ∃ e, d = e + 1 := ⟨d - 1, by omega⟩
  have b := W.1
  unfold WFb at b
  unfold setP at k
  refine r112_0 (S := S) C K P (by omega) ?_
  rw [R.2.1.1.2.2.1, shl_1 (by omega), show (((2 ^ (S 2).toNat : Nat)) : Int) = 2 ^ (S 2).toNat by simp]
  refine ⟨R, fun c => ?_, fun c => ⟨g, fun c2 => ?_, fun c2 => ⟨fun c3 => ?_, fun c3 => ?_⟩⟩⟩
  · rw [bI_neg (fun z => c z.1)] at k; exact k
  · rw [bI_neg (fun z => absurd z.2.1 (by omega))] at k; exact k
  · rw [bI_neg (fun z => absurd z.2.2 (by omega))] at k; exact k
  · rw [bI_pos ⟨c, by omega, by omega⟩] at k; exact k
def TBx (mk qu c k : Nat) : Prop := c = mk ∨ c = qu ∨ (c = 247 ∧ (k = 1 ∨ k = 2 ∨ k = 3 ∨ k = 6 ∨ k = 7))
/-- the class and its search behind a search -/
def PoS (h h' : AH) (pl mk qu ln : Nat) (S : Int → Int) (mk' qu' ln' m : Nat) : Prop :=
  Gx (TBx mk qu) UBg h h' ∧ GRo h' pl ∧ CS h' pl S ∧ SeaAt h' pl mk' qu' ln' ∧ apS pl mk' qu' ∧ (mk' < hn h' ∧ qu' < hn h') ∧ (∃ j : Nat, j ≤ 5 ∧ ln' = 8 ^ j) ∧ (8 : Int) ^ m ≤ ln' ∧ ((mk' = mk ∧ qu' = qu) ∨ (hn h ≤ mk' ∧ hn h ≤ qu')) ∧ (hn h' ≤ hn h + 2 ∧ hz h' + 4 * ln ≤ hz h + 4 * ln')
theorem SeaI.rest {h' : AH} {pl mk qu ln m : Nat} {S : Int → Int} {t : Prop} {w R T i N : Int} {st : Int → Int → Int} {pa : Int → Int} {la : Int → Int × Int × Int} (I : SeaI h' pl mk qu ln m S t w st pa la R T i) (W : WF N S) (B : SeaAt h' pl mk qu ln) (ap : apS pl mk qu) (b : mk < hn h' ∧ qu < hn h') (e : ∃ j : Nat, j ≤ 5 ∧ ln = 8 ^ j) (hl : (8 : Int) ^ m ≤ ln) : SeaR h' pl mk qu ln := by
  have w := W.1
  unfold WFb at w
  have tl := I.T_le
  refine ⟨B, ⟨ap.1, ap.2.1, ap.2.2.1, b.1, b.2⟩, e, by rw [I.2.1.1]; exact tl, fun k k0 k1 => ?_, fun x x0 x1 x2 => ?_⟩
  · rw [I.2.1.1] at k1
    have z := I.2.1.2.1 k k0 k1
    have := enc_b (b := 8) (by decide) m _ (z.1.up w.2.1).1
    rw [z.2]; omega
  · obtain ⟨y, hy, ey⟩ := I.2.1.2.2.2.2.1 x x0 x1 x2
    exact ⟨y, by rw [I.2.1.1]; exact hy, by rw [(I.2.1.2.1 y hy.1 hy.2).2]; exact ey.symm⟩
-- OutwardDoors.searchFor(II)V at 0
set_option maxRecDepth 20000 in
set_option maxHeartbeats 4000000 in
theorem r113_0 {X : Cst} {d : Nat} {x1 : Int} {x2 : Int} {pl : Nat} {h : AH} {Q : Post} (C_h : Lay h) (K_h_0 : PlanAt h pl) (P_h : hR h 52 0 = some pl)
  (w : Ex X PG (d + 1) 113 17 [some (.ref 0), some (.int (J x1)), some (.int (J x2)), some (.ref 64), some (.int (J 0)), some (.int (J 0)), some (.int (J 0))] [] h Q) :
    Ex X PG (d + 1) 113 0 [some (.ref 0), some (.int (J x1)), some (.int (J x2)), none, none, none, none] [] h Q := by
  refine wpx_ok (cut := [17]) 10 d 113 0 _ _ _ _ ?_
  show hs h 0 = (0, 10) ∧ ∃ q1, hR h 0 5 = some q1 ∧ hs h q1 = (0, 6) ∧ ∃ q2, hR h q1 1 = some q2 ∧ Ex X PG (d + 1) 113 17 [some (.ref 0), some (.int (J x1)), some (.int (J x2)), some (.ref q2), some (.int (J 0)), some (.int (J 0)), some (.int (J 0))] [] h Q
  try simp only [aI_wAL, fI_wAL, aL_wA, aL_wF, aI_wA_ne, aI_wF_ne, fI_wA_ne, fI_wF_ne, fI_wF_nk, aL_wAL_ne, J_sameA, J_sameF, aL_same, Nat.add_left_cancel_iff, Nat.add_eq_left, Nat.left_eq_add, not_false_eq_true, Nat.reduceEqDiff, Nat.reduceAdd, J_add, J_sub, J_mul, J_neg, J_and, J_or, J_xor, J_shl, J_shr, J_div, J_i2b, J_i2l, J_l2i, J_lcm, J_max, J_min, J_nab, J_nao, rdA, rdF, rdL, wA_fold, wF_fold, wL_fold, wC_fold]
  refine ⟨(ls0 C_h), _, (lr0_5 C_h), ?_⟩
  refine ⟨(ls52 C_h), _, (lr52_1 C_h), ?_⟩
  exact w
-- OutwardDoors.searchFor(II)V at 17
set_option maxRecDepth 20000 in
set_option maxHeartbeats 4000000 in
theorem r113_17 {X : Cst} {d : Nat} {x1 : Int} {x2 : Int} {x4 : Int} {x5 : Int} {x6 : Int} {pl : Nat} {S : Int → Int} {h : AH} {Q : Post} (C_h : Lay h) (K_h_0 : PlanAt h pl) (P_h : hR h 52 0 = some pl) (hd : 3 ≤ d)
  (w : (-2147483648 ≤ x6 ∧ x6 < 2147483648) ∧ ((fI h pl 2 ≤ x6 → (CS h pl S) ∧ (WF 999 S) ∧ Ex X PG d 114 0 [some (.ref 247), some (.ref pl), some (.int (J (bI (nightP S)))), some (.int (J (fI h pl 2))), some (.int (J x2)), none] [] h (fun v16 h17 => v16 = none ∧ GRo h17 pl ∧ Ex X PG d 117 0 [some (.ref 64), some (.int (J (fI h17 pl 2))), none, none] [] h17 (fun v21 h22 => ∃ r23 : Int, (-2147483648 ≤ r23 ∧ r23 < 2147483648) ∧ v21 = some (.int (J r23)) ∧ SH h17 h22 ∧ Ex X PG d 118 0 [some (.ref 247), some (.int (J r23))] [] h22 (fun v24 h25 => v24 = none ∧ SH h22 h25 ∧ Ex X PG d 120 0 [some (.ref 247), some (.int (J x4)), some (.int (J x5)), none] [] h25 (fun v27 h28 => v27 = none ∧ SH h25 h28 ∧ Q none h28))))) ∧ (¬ fI h pl 2 ≤ x6 → ((¬ iand (shr x1 (iand x6 31)) 1 = 1 → Ex X PG (d + 1) 113 17 [some (.ref 0), some (.int (J x1)), some (.int (J x2)), some (.ref 64), some (.int (J x4)), some (.int (J x5)), some (.int (J (x6 + 1)))] [] h Q) ∧ (iand (shr x1 (iand x6 31)) 1 = 1 → (0 ≤ x6 ∧ x6 < 4) ∧ Ex X PG (d + 1) 113 17 [some (.ref 0), some (.int (J x1)), some (.int (J x2)), some (.ref 64), some (.int (J (ior x4 (shl 7 (iand (3 * x6) 31))))), some (.int (J (ior x5 (shl (aI h 66 x6) (iand (3 * x6) 31))))), some (.int (J (x6 + 1)))] [] h Q))))) :
    Ex X PG (d + 1) 113 17 [some (.ref 0), some (.int (J x1)), some (.int (J x2)), some (.ref 64), some (.int (J x4)), some (.int (J x5)), some (.int (J x6))] [] h Q := by
  refine wpx_ok (cut := [17]) 34 d 113 17 _ _ _ _ ?_
  show hs h 0 = (0, 10) ∧ ∃ q1, hR h 0 5 = some q1 ∧ hs h q1 = (0, 6) ∧ ∃ q2, hR h q1 0 = some q2 ∧ hs h q2 = (0, 2) ∧ (((hF h q2 2) ≤ (J x6) → hs h 0 = (0, 10) ∧ ∃ q6, hR h 0 10 = some q6 ∧ hs h 0 = (0, 10) ∧ ∃ q7, hR h 0 5 = some q7 ∧ hs h q7 = (0, 6) ∧ ∃ q8, hR h q7 0 = some q8 ∧ hs h 0 = (0, 10) ∧ Ex X PG d 76 0 [some (.ref 0)] [] h (fun v9 h10 => ∃ r11, v9 = some (.int r11) ∧ hs h10 0 = (0, 10) ∧ ∃ q14, hR h10 0 5 = some q14 ∧ hs h10 q14 = (0, 6) ∧ ∃ q15, hR h10 q14 0 = some q15 ∧ hs h10 q15 = (0, 2) ∧ hs h10 q6 = (0, 7) ∧ Ex X PG d 114 0 [some (.ref q6), some (.ref q8), some (.int r11), some (.int (hF h10 q15 2)), some (.int (J x2)), none] [] h10 (fun v16 h17 => v16 = none ∧ hs h17 0 = (0, 10) ∧ ∃ q18, hR h17 0 10 = some q18 ∧ hs h17 0 = (0, 10) ∧ ∃ q19, hR h17 0 5 = some q19 ∧ hs h17 q19 = (0, 6) ∧ ∃ q20, hR h17 q19 0 = some q20 ∧ hs h17 q20 = (0, 2) ∧ hs h17 64 = (0, 9) ∧ Ex X PG d 117 0 [some (.ref 64), some (.int (hF h17 q20 2)), none, none] [] h17 (fun v21 h22 => ∃ r23, v21 = some (.int r23) ∧ hs h22 q18 = (0, 7) ∧ Ex X PG d 118 0 [some (.ref q18), some (.int r23)] [] h22 (fun v24 h25 => v24 = none ∧ hs h25 0 = (0, 10) ∧ ∃ q26, hR h25 0 10 = some q26 ∧ hs h25 q26 = (0, 7) ∧ Ex X PG d 120 0 [some (.ref q26), some (.int (J x4)), some (.int (J x5)), none] [] h25 (fun v27 h28 => v27 = none ∧ Q none h28)))))) ∧ (¬ ((hF h q2 2) ≤ (J x6)) → ((¬ (((J x1) >>> ((J x6) &&& J 31)) &&& (J 1)) = (J 1) → Ex X PG (d + 1) 113 17 [some (.ref 0), some (.int (J x1)), some (.int (J x2)), some (.ref 64), some (.int (J x4)), some (.int (J x5)), some (.int ((J x6) + (J 1)))] [] h Q) ∧ (¬ (¬ (((J x1) >>> ((J x6) &&& J 31)) &&& (J 1)) = (J 1)) → hs h 64 = (0, 9) ∧ ∃ q35, hR h 64 1 = some q35 ∧ (hs h q35).1 = 1 ∧ ix (J x6) (hs h q35).2 ∧ Ex X PG (d + 1) 113 17 [some (.ref 0), some (.int (J x1)), some (.int (J x2)), some (.ref 64), some (.int ((J x4) ||| ((J 7) <<< (((J 3) * (J x6)) &&& J 31)))), some (.int ((J x5) ||| ((hI h q35 (Int32.toNatClampNeg (J x6))) <<< (((J 3) * (J x6)) &&& J 31)))), some (.int ((J x6) + (J 1)))] [] h Q))))
  try simp only [aI_wAL, fI_wAL, aL_wA, aL_wF, aI_wA_ne, aI_wF_ne, fI_wA_ne, fI_wF_ne, fI_wF_nk, aL_wAL_ne, J_sameA, J_sameF, aL_same, Nat.add_left_cancel_iff, Nat.add_eq_left, Nat.left_eq_add, not_false_eq_true, Nat.reduceEqDiff, Nat.reduceAdd, J_add, J_sub, J_mul, J_neg, J_and, J_or, J_xor, J_shl, J_shr, J_div, J_i2b, J_i2l, J_l2i, J_lcm, J_max, J_min, J_nab, J_nao, rdA, rdF, rdL, wA_fold, wF_fold, wL_fold, wC_fold]
  refine ⟨(ls0 C_h), _, (lr0_5 C_h), ?_⟩
  refine ⟨(ls52 C_h), _, P_h, ?_⟩
  refine ⟨(plan_0 K_h_0), ?_⟩
  obtain ⟨k5, w⟩ := w
  refine ⟨fun c3 => ?_, fun c3 => ?_⟩
  · have t4 : fI h pl 2 ≤ x6 := ((Jle (rg_toInt _) k5).mp c3)
    replace w := w.1 t4
    refine ⟨(ls0 C_h), _, (lr0_10 C_h), ?_⟩
    refine ⟨(ls0 C_h), _, (lr0_5 C_h), ?_⟩
    refine ⟨(ls52 C_h), _, P_h, ?_⟩
    refine ⟨(ls0 C_h), ?_⟩
    obtain ⟨k12, w⟩ := w
    obtain ⟨k13, w⟩ := w
    refine m76 (h := h)  (S := S) (pl := pl) C_h P_h K_h_0 (by omega) k12 k13 ?_
    refine ⟨_, rfl, ?_⟩
    try simp only [aI_wAL, fI_wAL, aL_wA, aL_wF, aI_wA_ne, aI_wF_ne, fI_wA_ne, fI_wF_ne, fI_wF_nk, aL_wAL_ne, J_sameA, J_sameF, aL_same, Nat.add_left_cancel_iff, Nat.add_eq_left, Nat.left_eq_add, not_false_eq_true, Nat.reduceEqDiff, Nat.reduceAdd, J_add, J_sub, J_mul, J_neg, J_and, J_or, J_xor, J_shl, J_shr, J_div, J_i2b, J_i2l, J_l2i, J_lcm, J_max, J_min, J_nab, J_nao, rdA, rdF, rdL, wA_fold, wF_fold, wL_fold, wC_fold]
    refine ⟨(ls0 C_h), _, (lr0_5 C_h), ?_⟩
    refine ⟨(ls52 C_h), _, P_h, ?_⟩
    refine ⟨(plan_0 K_h_0), ?_⟩
    refine ⟨(ls247 C_h), ?_⟩
    refine Ex.mono w (Nat.le_refl _) ?_
    rintro v16 h17 ⟨rfl, ⟨C_h17, K_h17_0, P_h17⟩, w⟩
    refine ⟨rfl, ?_⟩
    try simp only [aI_wAL, fI_wAL, aL_wA, aL_wF, aI_wA_ne, aI_wF_ne, fI_wA_ne, fI_wF_ne, fI_wF_nk, aL_wAL_ne, J_sameA, J_sameF, aL_same, Nat.add_left_cancel_iff, Nat.add_eq_left, Nat.left_eq_add, not_false_eq_true, Nat.reduceEqDiff, Nat.reduceAdd, J_add, J_sub, J_mul, J_neg, J_and, J_or, J_xor, J_shl, J_shr, J_div, J_i2b, J_i2l, J_l2i, J_lcm, J_max, J_min, J_nab, J_nao, rdA, rdF, rdL, wA_fold, wF_fold, wL_fold, wC_fold]
    refine ⟨(ls0 C_h17), _, (lr0_10 C_h17), ?_⟩
    refine ⟨(ls0 C_h17), _, (lr0_5 C_h17), ?_⟩
    refine ⟨(ls52 C_h17), _, P_h17, ?_⟩
    refine ⟨(plan_0 K_h17_0), ?_⟩
    refine ⟨(ls64 C_h17), ?_⟩
    refine Ex.mono w (Nat.le_refl _) ?_
    rintro v21 h22 ⟨r23, gr23, rfl, s31, w⟩
    refine ⟨_, rfl, ?_⟩
    have C_h22 := Lay_SH s31 C_h17
    have K_h22_0 := PlanAt_SH s31 K_h17_0
    have P_h22 := (congrFun (congrFun s31.2 52) 0).trans P_h17
    try simp only [aI_wAL, fI_wAL, aL_wA, aL_wF, aI_wA_ne, aI_wF_ne, fI_wA_ne, fI_wF_ne, fI_wF_nk, aL_wAL_ne, J_sameA, J_sameF, aL_same, Nat.add_left_cancel_iff, Nat.add_eq_left, Nat.left_eq_add, not_false_eq_true, Nat.reduceEqDiff, Nat.reduceAdd, J_add, J_sub, J_mul, J_neg, J_and, J_or, J_xor, J_shl, J_shr, J_div, J_i2b, J_i2l, J_l2i, J_lcm, J_max, J_min, J_nab, J_nao, rdA, rdF, rdL, wA_fold, wF_fold, wL_fold, wC_fold]
    refine ⟨(ls247 C_h22), ?_⟩
    refine Ex.mono w (Nat.le_refl _) ?_
    rintro v24 h25 ⟨rfl, s30, w⟩
    refine ⟨rfl, ?_⟩
    have C_h25 := Lay_SH s30 C_h22
    have K_h25_0 := PlanAt_SH s30 K_h22_0
    have P_h25 := (congrFun (congrFun s30.2 52) 0).trans P_h22
    try simp only [aI_wAL, fI_wAL, aL_wA, aL_wF, aI_wA_ne, aI_wF_ne, fI_wA_ne, fI_wF_ne, fI_wF_nk, aL_wAL_ne, J_sameA, J_sameF, aL_same, Nat.add_left_cancel_iff, Nat.add_eq_left, Nat.left_eq_add, not_false_eq_true, Nat.reduceEqDiff, Nat.reduceAdd, J_add, J_sub, J_mul, J_neg, J_and, J_or, J_xor, J_shl, J_shr, J_div, J_i2b, J_i2l, J_l2i, J_lcm, J_max, J_min, J_nab, J_nao, rdA, rdF, rdL, wA_fold, wF_fold, wL_fold, wC_fold]
    refine ⟨(ls0 C_h25), _, (lr0_10 C_h25), ?_⟩
    refine ⟨(ls247 C_h25), ?_⟩
    refine Ex.mono w (Nat.le_refl _) ?_
    rintro v27 h28 ⟨rfl, s29, w⟩
    refine ⟨rfl, ?_⟩
    have C_h28 := Lay_SH s29 C_h25
    have K_h28_0 := PlanAt_SH s29 K_h25_0
    have P_h28 := (congrFun (congrFun s29.2 52) 0).trans P_h25
    try simp only [aI_wAL, fI_wAL, aL_wA, aL_wF, aI_wA_ne, aI_wF_ne, fI_wA_ne, fI_wF_ne, fI_wF_nk, aL_wAL_ne, J_sameA, J_sameF, aL_same, Nat.add_left_cancel_iff, Nat.add_eq_left, Nat.left_eq_add, not_false_eq_true, Nat.reduceEqDiff, Nat.reduceAdd, J_add, J_sub, J_mul, J_neg, J_and, J_or, J_xor, J_shl, J_shr, J_div, J_i2b, J_i2l, J_l2i, J_lcm, J_max, J_min, J_nab, J_nao, rdA, rdF, rdL, wA_fold, wF_fold, wL_fold, wC_fold]
    exact w
  · have t4 : ¬ fI h pl 2 ≤ x6 := (fun e => c3 ((Jle (rg_toInt _) k5).mpr e))
    replace w := w.2 t4
    refine ⟨fun c33 => ?_, fun c33 => ?_⟩
    · have t34 : ¬ iand (shr x1 (iand x6 31)) 1 = 1 := (fun e => c33 ((Jeq (rg_toInt _) (by decide)).mpr e))
      replace w := w.1 t34
      exact w
    · have t34 : iand (shr x1 (iand x6 31)) 1 = 1 := ((Jeq (rg_toInt _) (by decide)).mp (Classical.byContradiction c33))
      replace w := w.2 t34
      refine ⟨(ls64 C_h), _, (lr64_1 C_h), ?_⟩
      obtain ⟨k36, w⟩ := w
      refine ⟨congrArg Prod.fst (ls66 C_h), ixs (ls66 C_h) k36 (by decide), ?_⟩
      exact w
theorem m113 {X : Cst} {d pl pl0 mk qu ln : Nat} {N s w : Int} {S : Int → Int} {h : AH} {Q : Post} (C : Lay h) (P : hR h 52 0 = some pl) (K : PlanAt h pl) (h281 : 281 ≤ hn h) (hpl : pl + 10 < hn h) (hd : 7 ≤ d) (R : CS h pl S) (W : WF N S) (hN : N ≤ 999) (SR : SeaR h pl0 mk qu ln) (ap : apS pl mk qu) (hs' : setP S s) (gw : -2147483648 ≤ w ∧ w < 2147483648) (hw : ¬ w = -1 → (0 ≤ w ∧ w < S 1) ∧ opn S (nightP S) w)
    (k1 : ∀ h' mk' qu' ln' st pa la T F, PoS h h' pl mk qu ln S mk' qu' ln' (S 2).toNat → SeaI h' pl mk' qu' ln' (S 2).toNat S (nightP S) w st pa la 1 T F → st 0 = nowF S → (0 ≤ F ∧ F < T) → atG S s (st F) → (∀ i, 0 ≤ i → i < F → ¬ atG S s (st i)) → fI h' 247 7 = enc 8 (S 2).toNat (st F) → Q none h')
    (k2 : ∀ h' mk' qu' ln' st pa la T, PoS h h' pl mk qu ln S mk' qu' ln' (S 2).toNat → SeaI h' pl mk' qu' ln' (S 2).toNat S (nightP S) w st pa la 1 T T → st 0 = nowF S → (∀ i, 0 ≤ i → i < T → ¬ atG S s (st i)) → fI h' 247 7 = -1 → Q none h') : Ex X PG d 113 0 [some (.ref 0), some (.int (J s)), some (.int (J w)), none, none, none, none] [] h Q := by
  obtain ⟨d, rfl⟩ : ∃ e, d = e + 1 := ⟨d - 1, by omega⟩
  have b := W.1
  unfold WFb at b
  have W9 : WF 999 S := W.up hN
  have t4 := two_4 (n := S 2) (by omega)
  have s15 : 0 ≤ s ∧ s < 2147483648 := by have := hs'.2; omega
  have hm5 : (S 2).toNat ≤ 5 := by omega
  have kn := nowF_K W
  have gl : ∀ p : Int, 0 ≤ p → p < (S 2).toNat → 0 ≤ pS S p 1 ∧ pS S p 1 < 8 := fun p p0 p1 => by have := W.2.1 p p0 (by omega); omega
  have key : ∀ (u : Int → Int) (i : Nat), (i : Int) ≤ S 2 → (∀ p : Int, 0 ≤ p → p < (S 2).toNat → 0 ≤ u p ∧ u p < 8) → (0 ≤ enc 8 i (onl s u) ∧ enc 8 i (onl s u) < 8 ^ i) := by
    intro u i hi hu
    refine enc_b (b := 8) (by decide) i _ (fun p p0 p1 => ?_)
    unfold onl
    by_cases c : bt s p
    · rw [pI_pos c]; exact hu p p0 (by omega)
    · rw [pI_neg c]; decide
  have lp : ∀ (z i : Nat), S 2 - i = z → Ex X PG (d + 1) 113 17 [some (.ref 0), some (.int (J s)), some (.int (J w)), some (.ref 64), some (.int (J (enc 8 i (onl s (fun _ => 7))))), some (.int (J (enc 8 i (onl s (fun p => pS S p 1))))), some (.int (J (i : Int)))] [] h Q := by
    intro z
    induction z with
    | zero =>
      intro i e
      have ei : (S 2).toNat = i := by omega
      refine r113_17 (S := S) C K P (by omega) ?_
      rw [R.2.1.1.2.2.1]
      refine ⟨by omega, fun _ => ⟨R, W9, ?_⟩, fun y => absurd (by omega) y⟩
      have := m114 (X := X) (d := d) (pl := pl) (m := (S 2).toNat) (w := w) (t := nightP S) (h := h) (Q := fun v16 h17 => v16 = none ∧ GRo h17 pl ∧ Ex X PG d 117 0 [some (.ref 64), some (.int (J (fI h17 pl 2))), none, none] [] h17 (fun v21 h22 => ∃ r23 : Int, (-2147483648 ≤ r23 ∧ r23 < 2147483648) ∧ v21 = some (.int (J r23)) ∧ SH h17 h22 ∧ Ex X PG d 118 0 [some (.ref 247), some (.int (J r23))] [] h22 (fun v24 h25 => v24 = none ∧ SH h22 h25 ∧ Ex X PG d 120 0 [some (.ref 247), some (.int (J (enc 8 i (onl s (fun _ => 7))))), some (.int (J (enc 8 i (onl s (fun p => pS S p 1))))), none] [] h25 (fun v27 h28 => v27 = none ∧ SH h25 h28 ∧ Q none h28)))) C h281 SR ap hpl (by omega) hm5 gw (fun h17 mk' qu' ln' X17 B17 fr17 room17 => ?_)
      · rw [show (((S 2).toNat : Nat) : Int) = S 2 by omega] at this
        exact this
      obtain ⟨B, ap', mq, ee, hl, ⟨f1, f2, f3, f6, f7⟩, mz⟩ := B17
      have hR17 : hR h17 52 0 = some pl := by rw [X17.2.2.1 52 0 (by omega) (fun z => by unfold UBg at z; omega)]; exact P
      have C17 : Lay h17 := X17.C C h281 UBg_n
      have K17 : PlanAt h17 pl := K.gx X17 hpl (fun k z => by unfold UBg at z; have := R.1; omega)
      have apb := ap
      obtain ⟨a1, a2, a3, a4, a5⟩ := apb
      have R17 : CS h17 pl S := R.gx X17 hpl h281 (fun c k z => by unfold TBg at z; have := R.1; omega)
      refine ⟨rfl, ⟨C17, K17, hR17⟩, ?_⟩
      have eb8 := enc_b (b := 8) (by decide) _ _ (kn.up b.2.1).1
      have pw := pw_32k (b := 8) (by decide) (by decide) hm5
      refine m117 (S := S) C17 (WorldAt_64 C17) (by omega) R17.2.2.1 W R17.2.1.1.2.2.1 ⟨_, by omega, rfl, SH.rf, ?_⟩
      refine m118 (S := S) (T := 0) (st := fun _ => nowF S) (pa := fun _ => 0) (la := fun _ => (0, 0, 0)) C17 K17 B ap' (by omega) hm5 W hl (by decide) (LG_0 f6 mz _ _ _) kn (fun i i0 i1 => by omega) (fun h25 F25 L25 => ⟨rfl, F25.1, ?_⟩)
      have ap2 := ap'
      obtain ⟨c1, c2, c3, c4, c5⟩ := ap2
      have Bs : Bass h25 pl S (nightP S) (S 2).toNat w := by
        refine ⟨R17.2.1.fr F25 (fun c k z => (TSe_n ap' R.1 z).1), ?_, ?_, ?_⟩
        · rw [F25.f 247 1 (fun z => by unfold TSe at z; omega)]; exact f1
        · rw [F25.f 247 2 (fun z => by unfold TSe at z; omega)]; exact f2
        · rw [F25.f 247 3 (fun z => by unfold TSe at z; omega)]; exact f3
      have wi : ∀ f, Kf (S 2).toNat (S 0) f → (iand (enc 8 (S 2).toNat f) (enc 8 i (onl s (fun _ => 7))) = enc 8 i (onl s (fun p => pS S p 1)) ↔ atG S s f) := by
        intro f kf
        have := want_iff hm5 (f := f) (v := fun p => pS S p 1) (P := fun p => (0 ≤ p ∧ p < (S 2).toNat) ∧ bt s p) (kf.up b.2.1) gl (fun p z => z.1)
        rw [enc_cong (S 2).toNat (fun p => pI ((0 ≤ p ∧ p < (S 2).toNat) ∧ bt s p) 7 0) (onl s (fun _ => 7)) (fun p p0 p1 => ?_), enc_cong (S 2).toNat (fun p => pI ((0 ≤ p ∧ p < (S 2).toNat) ∧ bt s p) (pS S p 1) 0) (onl s (fun p => pS S p 1)) (fun p p0 p1 => ?_), ei] at this
        · rw [ei, this]
          exact ⟨fun z p p0 p1 hb => z p ⟨⟨p0, by omega⟩, hb⟩, fun z p hp => z p hp.1.1 (by omega) hp.2⟩
        · unfold onl
          by_cases c : bt s p
          · rw [pI_pos c, pI_pos ⟨⟨p0, p1⟩, c⟩]
          · rw [pI_neg c, pI_neg (fun z => c z.2)]
        · unfold onl
          by_cases c : bt s p
          · rw [pI_pos c, pI_pos ⟨⟨p0, p1⟩, c⟩]
          · rw [pI_neg c, pI_neg (fun z => c z.2)]
      have st0 : (fun x : Int => if x = 0 then nowF S else nowF S) 0 = nowF S := by dsimp only; rw [if_pos rfl]
      have I25 : SeaI h25 pl mk' qu' ln' (S 2).toNat S (nightP S) w (fun x : Int => if x = 0 then nowF S else nowF S) (fun _ => 0) (fun _ => (0, 0, 0)) 1 1 0 := ⟨Bs, L25, ⟨by decide, fun i j i0 i1 j0 j1 _ => by omega, fun i i0 i1 => by omega, fun i j i0 ij j1 => by omega⟩, fun i i0 i1 => by omega, fun j j0 j1 => by omega⟩
      have wr := key (fun p => pS S p 1) i (by omega) gl
      have pwi' := pw_32k (b := 8) (by decide) (by decide) (m := i) (by omega)
      have pos : ∀ h28, Fr (TSr mk' qu') h25 h28 → PoS h h28 pl mk qu ln S mk' qu' ln' (S 2).toNat := by
        intro h28 F28
        have F17 : Fr (fun c k => c = mk' ∨ c = qu' ∨ (c = 247 ∧ (k = 6 ∨ k = 7))) h17 h28 := (F25.mo fun c k z => by unfold TSe at z; omega).tr (F28.mo fun c k z => by unfold TSr TSe at z; omega)
        have nh : hn h28 = hn h17 := F17.1.hn
        have zh : hz h28 = hz h17 := F17.1.hz
        refine ⟨?_, ⟨F17.C C17, PlanAt_SH F17.1 K17, hR_fr F17 hR17⟩, R17.fr2 F17 (fun c k z => by have := R.1; omega), SeaAt_SH F17.1 B, ap', by omega, ee, hl, fr17, by omega⟩
        rcases fr17 with ⟨rfl, rfl⟩ | ⟨g1, g2⟩
        · exact (X17.mo (fun c k z => by unfold TBg at z; unfold TBx; omega) (fun c k z => z)).tr (Gx.of (F17.mo fun c k z => by unfold TBx; omega))
        · refine ⟨by have := X17.1; omega, fun c hc => by rw [F17.1.hs]; exact X17.2.1 c hc, fun c k hc u => by rw [F17.1.2]; exact X17.2.2.1 c k hc u, fun c k hc z => ?_⟩
          have x1 := F17.2 c k (fun y => z (by unfold TBx; omega))
          have x2 := X17.2.2.2 c k hc (fun y => z (by unfold TBg at y; unfold TBx; omega))
          exact ⟨by rw [x1.1, x2.1], by rw [x1.2, x2.2]⟩
      refine m120 (G := atG S s) (Lay_SH F25.1 C17) (PlanAt_SH F25.1 K17) (SeaAt_SH F25.1 B) ap' R.1 (by omega) hm5 W hl hw I25 (by rw [F25.f 247 7 (fun z => by unfold TSe at z; omega)]; exact f7) (by omega) wi (fun h28 st' pa' la' T' F' F28 I28 ag hF gF nG e7 => ⟨rfl, F28.1, ?_⟩) (fun h28 st' pa' la' T' F28 I28 ag nG e7 => ⟨rfl, F28.1, ?_⟩)
      · exact k1 h28 mk' qu' ln' st' pa' la' T' F' (pos h28 F28) I28 (by rw [ag 0 (by decide) (by decide)]; exact st0) hF gF nG e7
      · exact k2 h28 mk' qu' ln' st' pa' la' T' (pos h28 F28) I28 (by rw [ag 0 (by decide) (by decide)]; exact st0) nG e7
    | succ z ih =>
      intro i e
      have nx := ih (i + 1) (by omega)
      rw [enc_top, enc_top] at nx
      have i1 := key (fun _ => 7) i (by omega) (fun _ _ _ => by decide)
      have i2 := key (fun p => pS S p 1) i (by omega) gl
      have gi := gl i (by omega) (by omega)
      refine r113_17 (S := S) C K P (by omega) ?_
      rw [R.2.1.1.2.2.1, show aI h 66 (i : Int) = pS S i 1 from (R.2.2.1.1 i (by omega) (by omega)).2.1]
      have bti := isof_iff (s := s) (k := i) s15 (by omega)
      refine ⟨by omega, fun y => absurd y (by omega), fun _ => ⟨fun c => ?_, fun c => ⟨by omega, ?_⟩⟩⟩
      · have nb : ¬ bt s i := fun z => c (bti.mpr z)
        rw [show onl s (fun _ => 7) (i : Int) = 0 by unfold onl; exact pI_neg nb, show onl s (fun p => pS S p 1) (i : Int) = 0 by unfold onl; exact pI_neg nb, Int.zero_mul, Int.add_zero, Int.add_zero] at nx
        exact nx
      · have yb : bt s i := bti.mp c
        rw [show onl s (fun _ => 7) (i : Int) = 7 by unfold onl; exact pI_pos yb, show onl s (fun p => pS S p 1) (i : Int) = pS S i 1 by unfold onl; exact pI_pos yb] at nx
        rw [ior_pk (p := i) (by omega) (by rw [show ((i : Int)).toNat = i by omega]; exact i1) (by decide), ior_pk (p := i) (by omega) (by rw [show ((i : Int)).toNat = i by omega]; exact i2) gi, show ((i : Int)).toNat = i by omega]
        exact nx
  refine r113_0 C K P ?_
  exact lp (S 2).toNat 0 (by omega)
