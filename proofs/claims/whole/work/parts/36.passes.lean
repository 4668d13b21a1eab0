/-! THE REFERENCE: passes is mom. -/
def layP (S : Int → Int) (F : Int → Int → Int) (m : Int) : Int → Int := lay6 S (fun j w => F (j / 6) w) m
theorem layP_p {S : Int → Int} {F : Int → Int → Int} {m p w : Int} (h2 : S 2 ≤ 4) (hp : 0 ≤ p ∧ p < S 2) (hw : 0 ≤ w ∧ w < 6) : pS (layP S F m) p w = F p w := by
  unfold pS layP lay6
  have e : ((tn (10 + 6 * p + w) : Nat) : Int) = 10 + 6 * p + w := tn_self (by omega)
  have t : tn (10 + 6 * p + w) = (10 + 6 * p + w).toNat := tn_eq (by omega)
  rw [if_neg (by omega), if_pos ⟨by omega, by omega⟩, e]
  show F ((10 + 6 * p + w - 10) / 6) ((10 + 6 * p + w - 10) % 6) = _
  rw [show (10 + 6 * p + w - 10) / 6 = p by omega, show (10 + 6 * p + w - 10) % 6 = w by omega]
theorem layP_3 {S : Int → Int} {F : Int → Int → Int} {m : Int} : layP S F m 3 = m := by
  unfold layP lay6
  exact if_pos rfl
theorem layP_k {S : Int → Int} {F : Int → Int → Int} {m k : Int} (h : 0 ≤ k ∧ k < 2147483648) (h3 : ¬ k = 3) (hp : k < 10 ∨ 10 + 6 * S 2 ≤ k) : layP S F m k = S k := by
  unfold layP lay6
  have e : ((tn k : Nat) : Int) = k := tn_self h
  rw [if_neg (by omega), if_neg (by omega)]
theorem Tn_uu {S : Int → Int} {e v : Int} (h : Tn S) : Tn (uu_ S e v) := by
  intro k
  unfold uu_
  have : tn ((tn k : Nat) : Int) = tn k := by
    rw [tn_eq ⟨by omega, by have := tn_b k; omega⟩]; omega
  rw [this, ← h k]
theorem layP_ext {S R : Int → Int} {F : Int → Int → Int} {m : Int} (a : Tn S) (b : Tn R) (h2 : 0 ≤ S 2 ∧ S 2 ≤ 4) (h3 : R 3 = m) (hp : ∀ p w, 0 ≤ p → p < S 2 → 0 ≤ w → w < 6 → pS R p w = F p w) (hk : ∀ k, 0 ≤ k → k < 2147483648 → ¬ k = 3 → (k < 10 ∨ 10 + 6 * S 2 ≤ k) → R k = S k) : R = layP S F m := by
  refine Tn.ext b (Tn_lay6 a) fun k h1 h2' => ?_
  by_cases c3 : k = 3
  · subst c3; rw [h3]; exact layP_3.symm
  · by_cases c : k < 10 ∨ 10 + 6 * S 2 ≤ k
    · rw [hk k h1 h2' c3 c]; exact (layP_k ⟨h1, h2'⟩ c3 c).symm
    · have q := hp ((k - 10) / 6) ((k - 10) % 6) (by omega) (by omega) (by omega) (by omega)
      have q2 := layP_p (S := S) (F := F) (m := m) (p := (k - 10) / 6) (w := (k - 10) % 6) h2.2 (by omega) (by omega)
      unfold pS at q q2
      rw [show 10 + 6 * ((k - 10) / 6) + (k - 10) % 6 = k by omega] at q q2
      rw [q]; exact q2.symm
theorem layP_uu {S : Int → Int} {F G : Int → Int → Int} {m p w v : Int} (a : Tn S) (h2 : 0 ≤ S 2 ∧ S 2 ≤ 4) (hp : 0 ≤ p ∧ p < S 2) (hw : 0 ≤ w ∧ w < 6) (hv : G p w = v) (hG : ∀ q u, 0 ≤ q → q < S 2 → 0 ≤ u → u < 6 → ¬ (q = p ∧ u = w) → G q u = F q u) : uu_ (layP S F m) (10 + 6 * p + w) v = layP S G m := by
  refine layP_ext a (Tn_uu (Tn_lay6 a)) h2 ?_ ?_ ?_
  · rw [uu_ne (by omega) (by omega) (by omega)]; exact layP_3
  · intro q u h1 h3 h4 h5
    unfold pS
    by_cases c : q = p ∧ u = w
    · rw [c.1, c.2, uu_eq, hv]
    · rw [uu_ne (by omega) (by omega) (by omega), hG q u h1 h3 h4 h5 c]
      exact layP_p h2.2 ⟨h1, h3⟩ ⟨h4, h5⟩
  · intro k h1 h3 h4 h5
    rw [uu_ne (by omega) (by omega) (by omega)]
    exact layP_k ⟨h1, h3⟩ h4 h5
theorem layP_m {S : Int → Int} {F : Int → Int → Int} {m v : Int} (a : Tn S) (h2 : 0 ≤ S 2 ∧ S 2 ≤ 4) : uu_ (layP S F m) 3 v = layP S F v := by
  refine layP_ext a (Tn_uu (Tn_lay6 a)) h2 (uu_eq _ _ _) ?_ ?_
  · intro q u h1 h3 h4 h5
    have := layP_p (S := S) (F := F) (m := m) h2.2 ⟨h1, h3⟩ ⟨h4, h5⟩
    unfold pS at this ⊢
    rw [uu_ne (by omega) (by omega) (by omega)]
    exact this
  · intro k h1 h3 h4 h5
    rw [uu_ne (by omega) (by omega) h4]
    exact layP_k ⟨h1, h3⟩ h4 h5
theorem layP_id {S : Int → Int} (a : Tn S) (h2 : 0 ≤ S 2 ∧ S 2 ≤ 4) : S = layP S (pS S) (S 3) := layP_ext a a h2 rfl (fun _ _ _ _ _ _ => rfl) (fun _ _ _ _ _ => rfl)
/-- a person's cells, when those of G have gone out and those of K have come in -/
noncomputable def pclg (S D : Int → Int) (G K : Int → Prop) (p w : Int) : Int :=
  if w = 0 then @ite Int (G p) (Classical.propDecidable _) (fr S (D p)) (@ite Int (K p) (Classical.propDecidable _) (nr S (D p)) (pS S p 0))
  else if w = 3 then pS S p 3 + bI (K p) else if w = 4 then pS S p 4 + bI (G p)
  else if w = 5 then @ite Int (K p) (Classical.propDecidable _) (byw S D p) (pS S p 5) else pS S p w
theorem pclg_cong {S D : Int → Int} {G G' K K' : Int → Prop} {p w : Int} (h : G p ↔ G' p) (h' : K p ↔ K' p) : pclg S D G K p w = pclg S D G' K' p w := by
  unfold pclg
  rw [propext h, propext h']
theorem cnt_cong {P R : Int → Prop} {i : Int} (h : ∀ q, 0 ≤ q → q < i → (P q ↔ R q)) : cnt P i = cnt R i := by
  unfold cnt
  have : ∀ n : Nat, (n : Int) ≤ i → sumN n (fun o => bI (P o)) = sumN n (fun o => bI (R o)) := by
    intro n
    induction n with
    | zero => intro _; rfl
    | succ n ih =>
      intro l
      show sumN n _ + bI (P n) = sumN n _ + bI (R n)
      rw [ih (by omega), bI_iff (h n (by omega) (by omega))]
  by_cases c : 0 ≤ i
  · exact this _ (by omega)
  · rw [show i.toNat = 0 by omega]; rfl
theorem kth_cong {P R : Int → Prop} {n k : Int} (h : ∀ q, 0 ≤ q → q < n → (P q ↔ R q)) : kth P n k = kth R n k := by
  refine lst_cong fun u hu => ?_
  constructor
  · intro z; exact ⟨z.1, (h u hu z.1).mp z.2.1, by rw [← cnt_cong (fun q a b => h q a (by omega))]; exact z.2.2⟩
  · intro z; exact ⟨z.1, (h u hu z.1).mpr z.2.1, by rw [cnt_cong (fun q a b => h q a (by omega))]; exact z.2.2⟩
-- OutwardDoorsModel.willer(IZI)I at 0
set_option maxRecDepth 20000 in
set_option maxHeartbeats 4000000 in
theorem r246_0 {X : Cst} {d : Nat} {x1 : Int} {x2 : Int} {x3 : Int} {h : AH} {Q : Post} (C_h : Lay h)
  (w : Ex X PG (d + 1) 246 6 [some (.ref 256), some (.int (J x1)), some (.int (J x2)), some (.int (J x3)), some (.int (J x3)), some (.int (J 0))] [] h Q) :
    Ex X PG (d + 1) 246 0 [some (.ref 256), some (.int (J x1)), some (.int (J x2)), some (.int (J x3)), none, none] [] h Q := by
  refine wpx_ok (cut := [6]) 4 d 246 0 _ _ _ _ ?_
  show Ex X PG (d + 1) 246 6 [some (.ref 256), some (.int (J x1)), some (.int (J x2)), some (.int (J x3)), some (.int (J x3)), some (.int (J 0))] [] h Q
  try simp only [aI_wAL, fI_wAL, aL_wA, aL_wF, aI_wA_ne, aI_wF_ne, fI_wA_ne, fI_wF_ne, fI_wF_nk, aL_wAL_ne, J_sameA, J_sameF, aL_same, Nat.add_left_cancel_iff, Nat.add_eq_left, Nat.left_eq_add, not_false_eq_true, Nat.reduceEqDiff, Nat.reduceAdd, J_add, J_sub, J_mul, J_neg, J_and, J_or, J_xor, J_shl, J_shr, J_div, J_i2b, J_i2l, J_l2i, J_lcm, J_max, J_min, J_nab, J_nao, rdA, rdF, rdL, wA_fold, wF_fold, wL_fold, wC_fold]
  exact w
-- OutwardDoorsModel.willer(IZI)I at 6
set_option maxRecDepth 20000 in
set_option maxHeartbeats 4000000 in
theorem r246_6 {X : Cst} {d : Nat} {x1 : Int} {x2 : Int} {x3 : Int} {x4 : Int} {x5 : Int} {h : AH} {Q : Post} (C_h : Lay h)
  (w : (-2147483648 ≤ x5 ∧ x5 < 2147483648) ∧ ((aI h 266 2 ≤ x5 → Q (some (.int (J (-1)))) h) ∧ (¬ aI h 266 2 ≤ x5 → (0 ≤ x5 ∧ x5 < 4) ∧ (-2147483648 ≤ x1 ∧ x1 < 2147483648) ∧ ((¬ aI h 268 x5 = x1 → Ex X PG (d + 1) 246 6 [some (.ref 256), some (.int (J x1)), some (.int (J x2)), some (.int (J x3)), some (.int (J x4)), some (.int (J (x5 + 1)))] [] h Q) ∧ (aI h 268 x5 = x1 → (-2147483648 ≤ x2 ∧ x2 < 2147483648) ∧ ((aI h 269 x5 = x2 → (-2147483648 ≤ x4 ∧ x4 < 2147483648) ∧ ((¬ x4 = 0 → Ex X PG (d + 1) 246 6 [some (.ref 256), some (.int (J x1)), some (.int (J x2)), some (.int (J x3)), some (.int (J (x4 + (-1)))), some (.int (J (x5 + 1)))] [] h Q) ∧ (x4 = 0 → Q (some (.int (J x5))) h))) ∧ (¬ aI h 269 x5 = x2 → Ex X PG (d + 1) 246 6 [some (.ref 256), some (.int (J x1)), some (.int (J x2)), some (.int (J x3)), some (.int (J x4)), some (.int (J (x5 + 1)))] [] h Q))))))) :
    Ex X PG (d + 1) 246 6 [some (.ref 256), some (.int (J x1)), some (.int (J x2)), some (.int (J x3)), some (.int (J x4)), some (.int (J x5))] [] h Q := by
  refine wpx_ok (cut := [6]) 23 d 246 6 _ _ _ _ ?_
  show hs h 256 = (0, 11) ∧ ∃ q1, hR h 256 20 = some q1 ∧ (hs h q1).1 = 1 ∧ ix (J 2) (hs h q1).2 ∧ (((hI h q1 (Int32.toNatClampNeg (J 2))) ≤ (J x5) → Q (some (.int (J (-1)))) h) ∧ (¬ ((hI h q1 (Int32.toNatClampNeg (J 2))) ≤ (J x5)) → hs h 256 = (0, 11) ∧ ∃ q5, hR h 256 24 = some q5 ∧ (hs h q5).1 = 1 ∧ ix (J x5) (hs h q5).2 ∧ ((¬ (hI h q5 (Int32.toNatClampNeg (J x5))) = (J x1) → Ex X PG (d + 1) 246 6 [some (.ref 256), some (.int (J x1)), some (.int (J x2)), some (.int (J x3)), some (.int (J x4)), some (.int ((J x5) + (J 1)))] [] h Q) ∧ (¬ (¬ (hI h q5 (Int32.toNatClampNeg (J x5))) = (J x1)) → hs h 256 = (0, 11) ∧ ∃ q10, hR h 256 25 = some q10 ∧ ((hs h q10).1 = 3 ∨ (hs h q10).1 = 4) ∧ ix (J x5) (hs h q10).2 ∧ (((hI h q10 (Int32.toNatClampNeg (J x5))) = (J x2) → ((¬ (J x4) = (J 0) → Ex X PG (d + 1) 246 6 [some (.ref 256), some (.int (J x1)), some (.int (J x2)), some (.int (J x3)), some (.int ((J x4) + (J (-1)))), some (.int ((J x5) + (J 1)))] [] h Q) ∧ (¬ (¬ (J x4) = (J 0)) → Q (some (.int (J x5))) h))) ∧ (¬ ((hI h q10 (Int32.toNatClampNeg (J x5))) = (J x2)) → Ex X PG (d + 1) 246 6 [some (.ref 256), some (.int (J x1)), some (.int (J x2)), some (.int (J x3)), some (.int (J x4)), some (.int ((J x5) + (J 1)))] [] h Q))))))
  try simp only [aI_wAL, fI_wAL, aL_wA, aL_wF, aI_wA_ne, aI_wF_ne, fI_wA_ne, fI_wF_ne, fI_wF_nk, aL_wAL_ne, J_sameA, J_sameF, aL_same, Nat.add_left_cancel_iff, Nat.add_eq_left, Nat.left_eq_add, not_false_eq_true, Nat.reduceEqDiff, Nat.reduceAdd, J_add, J_sub, J_mul, J_neg, J_and, J_or, J_xor, J_shl, J_shr, J_div, J_i2b, J_i2l, J_l2i, J_lcm, J_max, J_min, J_nab, J_nao, rdA, rdF, rdL, wA_fold, wF_fold, wL_fold, wC_fold]
  refine ⟨(ls256 C_h), _, (lr256_20 C_h), ?_⟩
  refine ⟨congrArg Prod.fst (ls266 C_h), ixs (ls266 C_h) (by decide) (by decide), ?_⟩
  obtain ⟨k4, w⟩ := w
  refine ⟨fun c2 => ?_, fun c2 => ?_⟩
  · have t3 : aI h 266 2 ≤ x5 := ((Jle (rg_toInt _) k4).mp c2)
    replace w := w.1 t3
    exact w
  · have t3 : ¬ aI h 266 2 ≤ x5 := (fun e => c2 ((Jle (rg_toInt _) k4).mpr e))
    replace w := w.2 t3
    refine ⟨(ls256 C_h), _, (lr256_24 C_h), ?_⟩
    obtain ⟨k6, w⟩ := w
    refine ⟨congrArg Prod.fst (ls268 C_h), ixs (ls268 C_h) k6 (by decide), ?_⟩
    obtain ⟨k9, w⟩ := w
    refine ⟨fun c7 => ?_, fun c7 => ?_⟩
    · have t8 : ¬ aI h 268 x5 = x1 := (fun e => c7 ((Jeq (rg_toInt _) k9).mpr e))
      replace w := w.1 t8
      exact w
    · have t8 : aI h 268 x5 = x1 := ((Jeq (rg_toInt _) k9).mp (Classical.byContradiction c7))
      replace w := w.2 t8
      refine ⟨(ls256 C_h), _, (lr256_25 C_h), ?_⟩
      refine ⟨Or.inr (congrArg Prod.fst (ls269 C_h)), ixs (ls269 C_h) k6 (by decide), ?_⟩
      obtain ⟨k13, w⟩ := w
      refine ⟨fun c11 => ?_, fun c11 => ?_⟩
      · have t12 : aI h 269 x5 = x2 := ((Jeq (rg_toInt _) k13).mp c11)
        replace w := w.1 t12
        obtain ⟨k16, w⟩ := w
        refine ⟨fun c14 => ?_, fun c14 => ?_⟩
        · have t15 : ¬ x4 = 0 := (fun e => c14 ((Jeq k16 (by decide)).mpr e))
          replace w := w.1 t15
          exact w
        · have t15 : x4 = 0 := ((Jeq k16 (by decide)).mp (Classical.byContradiction c14))
          replace w := w.2 t15
          exact w
      · have t12 : ¬ aI h 269 x5 = x2 := (fun e => c11 ((Jeq (rg_toInt _) k13).mpr e))
        replace w := w.2 t12
        exact w
theorem q246_6 {X : Cst} {d : Nat} {x o k : Int} {h : AH} {Q : Post} (C : Lay h) (W2 : 0 ≤ aI h 266 2 ∧ aI h 266 2 ≤ 4) (hx : -2147483648 ≤ x ∧ x < 2147483648) (ho : -2147483648 ≤ o ∧ o < 2147483648) (hk : 0 ≤ k ∧ k < 100) (w : Q (some (.int (J (kth (fun q => aI h 268 q = x ∧ aI h 269 q = o) (aI h 266 2) k)))) h) :
    ∀ (n : Nat) (i : Int), aI h 266 2 - i = n → 0 ≤ i → cnt (fun q => aI h 268 q = x ∧ aI h 269 q = o) i ≤ k → Ex X PG (d + 1) 246 6 [some (.ref 256), some (.int (J x)), some (.int (J o)), some (.int (J k)), some (.int (J (k - cnt (fun q => aI h 268 q = x ∧ aI h 269 q = o) i))), some (.int (J i))] [] h Q := by
  intro n
  induction n with
  | zero =>
    intro i h1 h2 h3
    refine r246_6 C ⟨by omega, fun _ => ?_, fun z => absurd (by omega) z⟩
    rw [kth_no (by rw [show aI h 266 2 = i by omega]; exact h3)] at w
    exact w
  | succ n ih =>
    intro i h1 h2 h3
    have cb := cnt_b (fun q => aI h 268 q = x ∧ aI h 269 q = o) h2
    have cs := cnt_s (fun q => aI h 268 q = x ∧ aI h 269 q = o) h2
    refine r246_6 C ⟨by omega, fun z => absurd z (by omega), fun _ => ⟨by omega, hx, fun c => ?_, fun c => ⟨ho, fun c2 => ⟨by omega, fun c3 => ?_, fun c3 => ?_⟩, fun c2 => ?_⟩⟩⟩
    · rw [bI_neg (fun z => c z.1)] at cs
      have := ih (i + 1) (by omega) (by omega) (by omega)
      rw [cs, Int.add_zero] at this
      exact this
    · rw [bI_pos ⟨c, c2⟩] at cs
      have := ih (i + 1) (by omega) (by omega) (by omega)
      rw [cs] at this
      rw [show k - (cnt (fun q => aI h 268 q = x ∧ aI h 269 q = o) i + 1) = k - cnt (fun q => aI h 268 q = x ∧ aI h 269 q = o) i + -1 by omega] at this
      exact this
    · rw [kth_eq h2 (by omega) ⟨c, c2⟩ (by omega)] at w
      exact w
    · rw [bI_neg (fun z => c2 z.2)] at cs
      have := ih (i + 1) (by omega) (by omega) (by omega)
      rw [cs, Int.add_zero] at this
      exact this
theorem m246 {X : Cst} {d : Nat} {x o k : Int} {h : AH} {Q : Post} (C : Lay h) (hd : 1 ≤ d) (W2 : 0 ≤ aI h 266 2 ∧ aI h 266 2 ≤ 4) (hx : -2147483648 ≤ x ∧ x < 2147483648) (ho : -2147483648 ≤ o ∧ o < 2147483648) (hk : 0 ≤ k ∧ k < 100) (w : Q (some (.int (J (kth (fun q => aI h 268 q = x ∧ aI h 269 q = o) (aI h 266 2) k)))) h) : Ex X PG d 246 0 [some (.ref 256), some (.int (J x)), some (.int (J o)), some (.int (J k)), none, none] [] h Q := by
  obtain ⟨d, rfl⟩ : ∃ e, d = e + 1 := ⟨d - 1, by omega⟩
  refine r246_0 C ?_
  have := q246_6 (X := X) (d := d) C W2 hx ho hk w (aI h 266 2).toNat 0 (by omega) (by omega) (by rw [cnt_0]; omega)
  rw [cnt_0, Int.sub_zero] at this
  exact this
-- OutwardDoorsModel.goesOut(II)V at 0
set_option maxRecDepth 20000 in
set_option maxHeartbeats 4000000 in
theorem r245_0 {X : Cst} {d : Nat} {x1 : Int} {x2 : Int} {h : AH} {Q : Post} (C_h : Lay h) (hd : 1 ≤ d)
  (w : (0 ≤ x2 ∧ x2 < 14) ∧ (0 ≤ 10 + (6 * x1) ∧ 10 + (6 * x1) < 123) ∧ (0 ≤ (10 + (6 * x1)) + 4 ∧ (10 + (6 * x1)) + 4 < 123) ∧ Q none (wA (wA h 266 (10 + (6 * x1)) (fr (aI h 266) x2)) 266 ((10 + (6 * x1)) + 4) ((aI (wA h 266 (10 + (6 * x1)) (fr (aI h 266) x2)) 266 ((10 + (6 * x1)) + 4)) + 1))) :
    Ex X PG (d + 1) 245 0 [some (.ref 256), some (.int (J x1)), some (.int (J x2)), none] [] h Q := by
  refine wpx_ok (cut := []) 24 d 245 0 _ _ _ _ ?_
  show hs h 256 = (0, 11) ∧ ∃ q1, hR h 256 20 = some q1 ∧ hs h 256 = (0, 11) ∧ Ex X PG d 219 0 [some (.ref 256), some (.int (J x2))] [] h (fun v2 h3 => ∃ r4, v2 = some (.int r4) ∧ (hs h3 q1).1 = 1 ∧ ix ((J 10) + ((J 6) * (J x1))) (hs h3 q1).2 ∧ hs (wI h3 q1 (Int32.toNatClampNeg ((J 10) + ((J 6) * (J x1)))) r4) 256 = (0, 11) ∧ ∃ q7, hR (wI h3 q1 (Int32.toNatClampNeg ((J 10) + ((J 6) * (J x1)))) r4) 256 20 = some q7 ∧ (hs (wI h3 q1 (Int32.toNatClampNeg ((J 10) + ((J 6) * (J x1)))) r4) q7).1 = 1 ∧ ix (((J 10) + ((J 6) * (J x1))) + (J 4)) (hs (wI h3 q1 (Int32.toNatClampNeg ((J 10) + ((J 6) * (J x1)))) r4) q7).2 ∧ (hs (wI h3 q1 (Int32.toNatClampNeg ((J 10) + ((J 6) * (J x1)))) r4) q7).1 = 1 ∧ ix (((J 10) + ((J 6) * (J x1))) + (J 4)) (hs (wI h3 q1 (Int32.toNatClampNeg ((J 10) + ((J 6) * (J x1)))) r4) q7).2 ∧ Q none (wI (wI h3 q1 (Int32.toNatClampNeg ((J 10) + ((J 6) * (J x1)))) r4) q7 (Int32.toNatClampNeg (((J 10) + ((J 6) * (J x1))) + (J 4))) ((hI (wI h3 q1 (Int32.toNatClampNeg ((J 10) + ((J 6) * (J x1)))) r4) q7 (Int32.toNatClampNeg (((J 10) + ((J 6) * (J x1))) + (J 4)))) + (J 1))))
  try simp only [aI_wAL, fI_wAL, aL_wA, aL_wF, aI_wA_ne, aI_wF_ne, fI_wA_ne, fI_wF_ne, fI_wF_nk, aL_wAL_ne, J_sameA, J_sameF, aL_same, Nat.add_left_cancel_iff, Nat.add_eq_left, Nat.left_eq_add, not_false_eq_true, Nat.reduceEqDiff, Nat.reduceAdd, J_add, J_sub, J_mul, J_neg, J_and, J_or, J_xor, J_shl, J_shr, J_div, J_i2b, J_i2l, J_l2i, J_lcm, J_max, J_min, J_nab, J_nao, rdA, rdF, rdL, wA_fold, wF_fold, wL_fold, wC_fold]
  refine ⟨(ls256 C_h), _, (lr256_20 C_h), ?_⟩
  refine ⟨(ls256 C_h), ?_⟩
  obtain ⟨k5, w⟩ := w
  refine m219 (h := h) (x := x2) C_h (by omega) k5 ?_
  refine ⟨_, rfl, ?_⟩
  try simp only [aI_wAL, fI_wAL, aL_wA, aL_wF, aI_wA_ne, aI_wF_ne, fI_wA_ne, fI_wF_ne, fI_wF_nk, aL_wAL_ne, J_sameA, J_sameF, aL_same, Nat.add_left_cancel_iff, Nat.add_eq_left, Nat.left_eq_add, not_false_eq_true, Nat.reduceEqDiff, Nat.reduceAdd, J_add, J_sub, J_mul, J_neg, J_and, J_or, J_xor, J_shl, J_shr, J_div, J_i2b, J_i2l, J_l2i, J_lcm, J_max, J_min, J_nab, J_nao, rdA, rdF, rdL, wA_fold, wF_fold, wL_fold, wC_fold]
  obtain ⟨k6, w⟩ := w
  refine ⟨congrArg Prod.fst (ls266 C_h), ixs (ls266 C_h) k6 (by decide), ?_⟩
  refine ⟨(ls256 C_h), _, (lr256_20 C_h), ?_⟩
  obtain ⟨k8, w⟩ := w
  refine ⟨congrArg Prod.fst (ls266 C_h), ixs (ls266 C_h) k8 (by decide), ?_⟩
  refine ⟨congrArg Prod.fst (ls266 C_h), ixs (ls266 C_h) k8 (by decide), ?_⟩
  exact w
theorem m245 {X : Cst} {d : Nat} {p x : Int} {h : AH} {Q : Post} (C : Lay h) (hd : 2 ≤ d) (hp : 0 ≤ p ∧ p < 4) (hx : 0 ≤ x ∧ x < 14) (g : pS (aI h 266) p 4 < 2147483647)
    (k : ∀ h', SH h h' → (Fr (fun c _ => c = 266) h h' ∧ aI h' 266 = uu_ (uu_ (aI h 266) (10 + 6 * p + 0) (fr (aI h 266) x)) (10 + 6 * p + 4) (pS (aI h 266) p 4 + 1)) → Q none h') : Ex X PG d 245 0 [some (.ref 256), some (.int (J p)), some (.int (J x)), none] [] h Q := by
  obtain ⟨d, rfl⟩ : ∃ e, d = e + 1 := ⟨d - 1, by omega⟩
  refine r245_0 C (by omega) ⟨hx, by omega, by omega, ?_⟩
  have F : Fr (fun c _ => c = 266) h (wA (wA h 266 (10 + 6 * p) (fr (aI h 266) x)) 266 (10 + 6 * p + 4) (aI (wA h 266 (10 + 6 * p) (fr (aI h 266) x)) 266 (10 + 6 * p + 4) + 1)) := ((Fr.rf (T := fun c _ => c = 266)).wA rfl).wA rfl
  have r1 : -2147483648 ≤ fr (aI h 266) x ∧ fr (aI h 266) x < 2147483648 := aI_rg _ _ _
  have r2 := aI_rg h 266 (10 + 6 * p + 4)
  have e4 : aI (wA h 266 (10 + 6 * p) (fr (aI h 266) x)) 266 (10 + 6 * p + 4) = pS (aI h 266) p 4 := by
    rw [aI_wA r1, uu_ne (by omega) (by omega) (by omega)]; rfl
  refine k _ F.1 ⟨F, ?_⟩
  rw [e4, aI_wA (by unfold pS at g ⊢; omega), aI_wA r1, Int.add_zero]
-- OutwardDoorsModel.comesIn(III)V at 0
set_option maxRecDepth 20000 in
set_option maxHeartbeats 4000000 in
theorem r247_0 {X : Cst} {d : Nat} {x1 : Int} {x2 : Int} {x3 : Int} {h : AH} {Q : Post} (C_h : Lay h) (hd : 1 ≤ d)
  (w : (0 ≤ x2 ∧ x2 < 14) ∧ (0 ≤ 10 + (6 * x1) ∧ 10 + (6 * x1) < 123) ∧ (0 ≤ (10 + (6 * x1)) + 3 ∧ (10 + (6 * x1)) + 3 < 123) ∧ (0 ≤ (10 + (6 * x1)) + 5 ∧ (10 + (6 * x1)) + 5 < 123) ∧ Q none (wA (wA (wA h 266 (10 + (6 * x1)) (nr (aI h 266) x2)) 266 ((10 + (6 * x1)) + 3) ((aI (wA h 266 (10 + (6 * x1)) (nr (aI h 266) x2)) 266 ((10 + (6 * x1)) + 3)) + 1)) 266 ((10 + (6 * x1)) + 5) x3)) :
    Ex X PG (d + 1) 247 0 [some (.ref 256), some (.int (J x1)), some (.int (J x2)), some (.int (J x3)), none] [] h Q := by
  refine wpx_ok (cut := []) 31 d 247 0 _ _ _ _ ?_
  show hs h 256 = (0, 11) ∧ ∃ q1, hR h 256 20 = some q1 ∧ hs h 256 = (0, 11) ∧ Ex X PG d 218 0 [some (.ref 256), some (.int (J x2))] [] h (fun v2 h3 => ∃ r4, v2 = some (.int r4) ∧ (hs h3 q1).1 = 1 ∧ ix ((J 10) + ((J 6) * (J x1))) (hs h3 q1).2 ∧ hs (wI h3 q1 (Int32.toNatClampNeg ((J 10) + ((J 6) * (J x1)))) r4) 256 = (0, 11) ∧ ∃ q7, hR (wI h3 q1 (Int32.toNatClampNeg ((J 10) + ((J 6) * (J x1)))) r4) 256 20 = some q7 ∧ (hs (wI h3 q1 (Int32.toNatClampNeg ((J 10) + ((J 6) * (J x1)))) r4) q7).1 = 1 ∧ ix (((J 10) + ((J 6) * (J x1))) + (J 3)) (hs (wI h3 q1 (Int32.toNatClampNeg ((J 10) + ((J 6) * (J x1)))) r4) q7).2 ∧ (hs (wI h3 q1 (Int32.toNatClampNeg ((J 10) + ((J 6) * (J x1)))) r4) q7).1 = 1 ∧ ix (((J 10) + ((J 6) * (J x1))) + (J 3)) (hs (wI h3 q1 (Int32.toNatClampNeg ((J 10) + ((J 6) * (J x1)))) r4) q7).2 ∧ hs (wI (wI h3 q1 (Int32.toNatClampNeg ((J 10) + ((J 6) * (J x1)))) r4) q7 (Int32.toNatClampNeg (((J 10) + ((J 6) * (J x1))) + (J 3))) ((hI (wI h3 q1 (Int32.toNatClampNeg ((J 10) + ((J 6) * (J x1)))) r4) q7 (Int32.toNatClampNeg (((J 10) + ((J 6) * (J x1))) + (J 3)))) + (J 1))) 256 = (0, 11) ∧ ∃ q9, hR (wI (wI h3 q1 (Int32.toNatClampNeg ((J 10) + ((J 6) * (J x1)))) r4) q7 (Int32.toNatClampNeg (((J 10) + ((J 6) * (J x1))) + (J 3))) ((hI (wI h3 q1 (Int32.toNatClampNeg ((J 10) + ((J 6) * (J x1)))) r4) q7 (Int32.toNatClampNeg (((J 10) + ((J 6) * (J x1))) + (J 3)))) + (J 1))) 256 20 = some q9 ∧ (hs (wI (wI h3 q1 (Int32.toNatClampNeg ((J 10) + ((J 6) * (J x1)))) r4) q7 (Int32.toNatClampNeg (((J 10) + ((J 6) * (J x1))) + (J 3))) ((hI (wI h3 q1 (Int32.toNatClampNeg ((J 10) + ((J 6) * (J x1)))) r4) q7 (Int32.toNatClampNeg (((J 10) + ((J 6) * (J x1))) + (J 3)))) + (J 1))) q9).1 = 1 ∧ ix (((J 10) + ((J 6) * (J x1))) + (J 5)) (hs (wI (wI h3 q1 (Int32.toNatClampNeg ((J 10) + ((J 6) * (J x1)))) r4) q7 (Int32.toNatClampNeg (((J 10) + ((J 6) * (J x1))) + (J 3))) ((hI (wI h3 q1 (Int32.toNatClampNeg ((J 10) + ((J 6) * (J x1)))) r4) q7 (Int32.toNatClampNeg (((J 10) + ((J 6) * (J x1))) + (J 3)))) + (J 1))) q9).2 ∧ Q none (wI (wI (wI h3 q1 (Int32.toNatClampNeg ((J 10) + ((J 6) * (J x1)))) r4) q7 (Int32.toNatClampNeg (((J 10) + ((J 6) * (J x1))) + (J 3))) ((hI (wI h3 q1 (Int32.toNatClampNeg ((J 10) + ((J 6) * (J x1)))) r4) q7 (Int32.toNatClampNeg (((J 10) + ((J 6) * (J x1))) + (J 3)))) + (J 1))) q9 (Int32.toNatClampNeg (((J 10) + ((J 6) * (J x1))) + (J 5))) (J x3)))
  try simp only [aI_wAL, fI_wAL, aL_wA, aL_wF, aI_wA_ne, aI_wF_ne, fI_wA_ne, fI_wF_ne, fI_wF_nk, aL_wAL_ne, J_sameA, J_sameF, aL_same, Nat.add_left_cancel_iff, Nat.add_eq_left, Nat.left_eq_add, not_false_eq_true, Nat.reduceEqDiff, Nat.reduceAdd, J_add, J_sub, J_mul, J_neg, J_and, J_or, J_xor, J_shl, J_shr, J_div, J_i2b, J_i2l, J_l2i, J_lcm, J_max, J_min, J_nab, J_nao, rdA, rdF, rdL, wA_fold, wF_fold, wL_fold, wC_fold]
  refine ⟨(ls256 C_h), _, (lr256_20 C_h), ?_⟩
  refine ⟨(ls256 C_h), ?_⟩
  obtain ⟨k5, w⟩ := w
  refine m218 (h := h) (x := x2) C_h (by omega) k5 ?_
  refine ⟨_, rfl, ?_⟩
  try simp only [aI_wAL, fI_wAL, aL_wA, aL_wF, aI_wA_ne, aI_wF_ne, fI_wA_ne, fI_wF_ne, fI_wF_nk, aL_wAL_ne, J_sameA, J_sameF, aL_same, Nat.add_left_cancel_iff, Nat.add_eq_left, Nat.left_eq_add, not_false_eq_true, Nat.reduceEqDiff, Nat.reduceAdd, J_add, J_sub, J_mul, J_neg, J_and, J_or, J_xor, J_shl, J_shr, J_div, J_i2b, J_i2l, J_l2i, J_lcm, J_max, J_min, J_nab, J_nao, rdA, rdF, rdL, wA_fold, wF_fold, wL_fold, wC_fold]
  obtain ⟨k6, w⟩ := w
  refine ⟨congrArg Prod.fst (ls266 C_h), ixs (ls266 C_h) k6 (by decide), ?_⟩
  refine ⟨(ls256 C_h), _, (lr256_20 C_h), ?_⟩
  obtain ⟨k8, w⟩ := w
  refine ⟨congrArg Prod.fst (ls266 C_h), ixs (ls266 C_h) k8 (by decide), ?_⟩
  refine ⟨congrArg Prod.fst (ls266 C_h), ixs (ls266 C_h) k8 (by decide), ?_⟩
  refine ⟨(ls256 C_h), _, (lr256_20 C_h), ?_⟩
  obtain ⟨k10, w⟩ := w
  refine ⟨congrArg Prod.fst (ls266 C_h), ixs (ls266 C_h) k10 (by decide), ?_⟩
  exact w
theorem m247 {X : Cst} {d : Nat} {p x b : Int} {h : AH} {Q : Post} (C : Lay h) (hd : 2 ≤ d) (hp : 0 ≤ p ∧ p < 4) (hx : 0 ≤ x ∧ x < 14) (hb : -2147483648 ≤ b ∧ b < 2147483648) (g : pS (aI h 266) p 3 < 2147483647)
    (k : ∀ h', SH h h' → (Fr (fun c _ => c = 266) h h' ∧ aI h' 266 = uu_ (uu_ (uu_ (aI h 266) (10 + 6 * p + 0) (nr (aI h 266) x)) (10 + 6 * p + 3) (pS (aI h 266) p 3 + 1)) (10 + 6 * p + 5) b) → Q none h') : Ex X PG d 247 0 [some (.ref 256), some (.int (J p)), some (.int (J x)), some (.int (J b)), none] [] h Q := by
  obtain ⟨d, rfl⟩ : ∃ e, d = e + 1 := ⟨d - 1, by omega⟩
  refine r247_0 C (by omega) ⟨hx, by omega, by omega, by omega, ?_⟩
  have F : Fr (fun c _ => c = 266) h (wA (wA (wA h 266 (10 + 6 * p) (nr (aI h 266) x)) 266 (10 + 6 * p + 3) (aI (wA h 266 (10 + 6 * p) (nr (aI h 266) x)) 266 (10 + 6 * p + 3) + 1)) 266 (10 + 6 * p + 5) b) := (((Fr.rf (T := fun c _ => c = 266)).wA rfl).wA rfl).wA rfl
  have r1 : -2147483648 ≤ nr (aI h 266) x ∧ nr (aI h 266) x < 2147483648 := aI_rg _ _ _
  have r2 := aI_rg h 266 (10 + 6 * p + 3)
  have e4 : aI (wA h 266 (10 + 6 * p) (nr (aI h 266) x)) 266 (10 + 6 * p + 3) = pS (aI h 266) p 3 := by
    rw [aI_wA r1, uu_ne (by omega) (by omega) (by omega)]; rfl
  refine k _ F.1 ⟨F, ?_⟩
  rw [e4, aI_wA hb, aI_wA (by unfold pS at g ⊢; omega), aI_wA r1, Int.add_zero]
