/-! THE REFERENCE: the fewest passings. -/
/-- the heads below k have been gone back from -/
def PRC (E : (Int → Int) → (Int → Int) → Prop) (b : Int) (m : Nat) (h : AH) (k : Int) : Prop := ∀ i, 0 ≤ i → i < k → ∀ g, Kf m b g → E g (dcd b m (aI h 273 i)) → 0 ≤ aI h 272 (enc b m g) ∧ aI h 272 (enc b m g) ≤ aI h 272 (aI h 273 i) + 1
def SND (E : (Int → Int) → (Int → Int) → Prop) (G : (Int → Int) → Prop) (b : Int) (m : Nat) (h : AH) : Prop := ∀ f, Kf m b f → 0 ≤ aI h 272 (enc b m f) → RK E G (aI h 272 (enc b m f)).toNat f
def SED (G : (Int → Int) → Prop) (b : Int) (m : Nat) (h : AH) : Prop := ∀ f, Kf m b f → G f → aI h 272 (enc b m f) = 0
def TB2 (c k : Nat) : Prop := TB c k ∨ (c = 256 ∧ k = 32)
-- OutwardDoorsModel.goesBack(I)V at 0
set_option maxRecDepth 20000 in
set_option maxHeartbeats 4000000 in
theorem r262_0 {X : Cst} {d : Nat} {x1 : Int} {h : AH} {Q : Post} (C_h : Lay h)
  (w : Ex X PG (d + 1) 262 2 [some (.ref 256), some (.int (J x1)), some (.int (J 0))] [] h Q) :
    Ex X PG (d + 1) 262 0 [some (.ref 256), some (.int (J x1)), none] [] h Q := by
  refine wpx_ok (cut := [2]) 2 d 262 0 _ _ _ _ ?_
  show Ex X PG (d + 1) 262 2 [some (.ref 256), some (.int (J x1)), some (.int (J 0))] [] h Q
  try simp only [aI_wAL, fI_wAL, aL_wA, aL_wF, aI_wA_ne, aI_wF_ne, fI_wA_ne, fI_wF_ne, fI_wF_nk, aL_wAL_ne, J_sameA, J_sameF, aL_same, Nat.add_left_cancel_iff, Nat.add_eq_left, Nat.left_eq_add, not_false_eq_true, Nat.reduceEqDiff, Nat.reduceAdd, J_add, J_sub, J_mul, J_neg, J_and, J_or, J_xor, J_shl, J_shr, J_div, J_i2b, J_i2l, J_l2i, J_lcm, J_max, J_min, J_nab, J_nao, rdA, rdF, rdL, wA_fold, wF_fold, wL_fold, wC_fold]
  exact w
-- OutwardDoorsModel.goesBack(I)V at 2
set_option maxRecDepth 20000 in
set_option maxHeartbeats 4000000 in
theorem r262_2 {X : Cst} {d : Nat} {x1 : Int} {x2 : Int} {h : AH} {Q : Post} (C_h : Lay h)
  (w : (-2147483648 ≤ x2 ∧ x2 < 2147483648) ∧ ((fI h 256 31 ≤ x2 → Q none h) ∧ (¬ fI h 256 31 ≤ x2 → (0 ≤ x2 ∧ x2 < 32768) ∧ Ex X PG d 263 0 [some (.ref 256), some (.int (J (aI h 273 x2))), some (.int (J x1)), none, none, none, none, none] [] h (fun v6 h7 => v6 = none ∧ SH h h7 ∧ Ex X PG (d + 1) 262 2 [some (.ref 256), some (.int (J x1)), some (.int (J (x2 + 1)))] [] h7 Q)))) :
    Ex X PG (d + 1) 262 2 [some (.ref 256), some (.int (J x1)), some (.int (J x2))] [] h Q := by
  refine wpx_ok (cut := [2]) 13 d 262 2 _ _ _ _ ?_
  show hs h 256 = (0, 11) ∧ (((hF h 256 31) ≤ (J x2) → Q none h) ∧ (¬ ((hF h 256 31) ≤ (J x2)) → hs h 256 = (0, 11) ∧ ∃ q4, hR h 256 30 = some q4 ∧ (hs h q4).1 = 1 ∧ ix (J x2) (hs h q4).2 ∧ hs h 256 = (0, 11) ∧ Ex X PG d 263 0 [some (.ref 256), some (.int (hI h q4 (Int32.toNatClampNeg (J x2)))), some (.int (J x1)), none, none, none, none, none] [] h (fun v6 h7 => v6 = none ∧ Ex X PG (d + 1) 262 2 [some (.ref 256), some (.int (J x1)), some (.int ((J x2) + (J 1)))] [] h7 Q)))
  try simp only [aI_wAL, fI_wAL, aL_wA, aL_wF, aI_wA_ne, aI_wF_ne, fI_wA_ne, fI_wF_ne, fI_wF_nk, aL_wAL_ne, J_sameA, J_sameF, aL_same, Nat.add_left_cancel_iff, Nat.add_eq_left, Nat.left_eq_add, not_false_eq_true, Nat.reduceEqDiff, Nat.reduceAdd, J_add, J_sub, J_mul, J_neg, J_and, J_or, J_xor, J_shl, J_shr, J_div, J_i2b, J_i2l, J_l2i, J_lcm, J_max, J_min, J_nab, J_nao, rdA, rdF, rdL, wA_fold, wF_fold, wL_fold, wC_fold]
  refine ⟨(ls256 C_h), ?_⟩
  obtain ⟨k3, w⟩ := w
  refine ⟨fun c1 => ?_, fun c1 => ?_⟩
  · have t2 : fI h 256 31 ≤ x2 := ((Jle (rg_toInt _) k3).mp c1)
    replace w := w.1 t2
    exact w
  · have t2 : ¬ fI h 256 31 ≤ x2 := (fun e => c1 ((Jle (rg_toInt _) k3).mpr e))
    replace w := w.2 t2
    refine ⟨(ls256 C_h), _, (lr256_30 C_h), ?_⟩
    obtain ⟨k5, w⟩ := w
    refine ⟨congrArg Prod.fst (ls273 C_h), ixs (ls273 C_h) k5 (by decide), ?_⟩
    refine ⟨(ls256 C_h), ?_⟩
    refine Ex.mono w (Nat.le_refl _) ?_
    rintro v6 h7 ⟨rfl, s8, w⟩
    refine ⟨rfl, ?_⟩
    have C_h7 := Lay_SH s8 C_h
    try simp only [aI_wAL, fI_wAL, aL_wA, aL_wF, aI_wA_ne, aI_wF_ne, fI_wA_ne, fI_wF_ne, fI_wF_nk, aL_wAL_ne, J_sameA, J_sameF, aL_same, Nat.add_left_cancel_iff, Nat.add_eq_left, Nat.left_eq_add, not_false_eq_true, Nat.reduceEqDiff, Nat.reduceAdd, J_add, J_sub, J_mul, J_neg, J_and, J_or, J_xor, J_shl, J_shr, J_div, J_i2b, J_i2l, J_l2i, J_lcm, J_max, J_min, J_nab, J_nao, rdA, rdF, rdL, wA_fold, wF_fold, wL_fold, wC_fold]
    exact w
theorem m262 {X : Cst} {d m : Nat} {w M : Int} {G : (Int → Int) → Prop} {S : Int → Int} {h : AH} {Q : Post} (C : Lay h) (hd : 6 ≤ d) (eS : aI h 266 = S) (W : WF M S) (hM : M ≤ 999) (hn : 0 < S 0) (hm : m ≤ 5) (em : fI h 256 32 = m) (B : BQ h (S 0 ^ m) 0) (sn : SND (Edg S (nightP S) m w) G (S 0) m h) (sd : SED G (S 0) m h) (gw : -2147483648 ≤ w ∧ w < 2147483648)
    (k : ∀ h', Fr TB h h' → (∀ f, Kf m (S 0) f → IsD (Edg S (nightP S) m w) G f (aI h' 272 (enc (S 0) m f))) → Q none h') : Ex X PG d 262 0 [some (.ref 256), some (.int (J w)), none] [] h Q := by
  obtain ⟨d, rfl⟩ : ∃ e, d = e + 1 := ⟨d - 1, by omega⟩
  have b := W.1
  unfold WFb at b
  have hn8 : 0 < S 0 ∧ S 0 ≤ 8 := by omega
  have pw := pw_32k hn8.1 hn8.2 hm
  have eb : ∀ g, Kf m (S 0) g → 0 ≤ enc (S 0) m g ∧ enc (S 0) m g < S 0 ^ m := fun g kg => enc_b hn m g kg.1
  have ks : ∀ h', Fr TB h h' → aI h' 266 = S ∧ fI h' 256 32 = m := fun h' F => ⟨by rw [F.a 266 (fun k z => by unfold TB at z; omega)]; exact eS, by rw [F.f 256 32 (fun z => by unfold TB at z; omega)]; exact em⟩
  have lp : ∀ (z : Nat) (i v : Int) (h' : AH), S 0 ^ m - i = z → 0 ≤ i → i ≤ fI h' 256 31 → Fr TB h h' → BQ h' (S 0 ^ m) v → (i < fI h' 256 31 → v ≤ aI h' 272 (aI h' 273 i) + 1) → 0 ≤ v ∧ v ≤ i → SND (Edg S (nightP S) m w) G (S 0) m h' → SED G (S 0) m h' → PRC (Edg S (nightP S) m w) (S 0) m h' i → Ex X PG (d + 1) 262 2 [some (.ref 256), some (.int (J w)), some (.int (J i))] [] h' Q := by
    have fin : ∀ (i v : Int) (h' : AH), fI h' 256 31 ≤ i → Fr TB h h' → BQ h' (S 0 ^ m) v → SND (Edg S (nightP S) m w) G (S 0) m h' → SED G (S 0) m h' → PRC (Edg S (nightP S) m w) (S 0) m h' i → Q none h' := by
      intro i v h' i1 F B' sn sd pc
      refine k h' F (fun f kf => ?_)
      have cpl : ∀ (j : Nat) (f : Int → Int), Kf m (S 0) f → RK (Edg S (nightP S) m w) G j f → 0 ≤ aI h' 272 (enc (S 0) m f) ∧ aI h' 272 (enc (S 0) m f) ≤ j := by
        intro j
        induction j with
        | zero =>
          intro f kf r
          have := sd f kf r
          omega
        | succ j ih =>
          intro f kf r
          obtain ⟨g, eg, rg⟩ := r
          have kg : Kf m (S 0) g := by
            obtain ⟨p, d', q, hl⟩ := eg
            exact Lbl_K W hl kf
          have ig := ih g kg rg
          obtain ⟨x, hx, ex⟩ := B'.2.2.2.1 (enc (S 0) m g) (eb g kg).1 (eb g kg).2 ig.1
          have := pc x hx.1 (by omega) f kf (by rw [ex, dcd_enc hn kg]; exact eg)
          rw [ex] at this
          omega
      by_cases c : 0 ≤ aI h' 272 (enc (S 0) m f)
      · exact Or.inr ⟨c, sn f kf c, fun j r => (cpl j f kf r).2⟩
      · have := B'.2.2.2.2 (enc (S 0) m f) (eb f kf).1 (eb f kf).2
        exact Or.inl ⟨by omega, fun j r => c (cpl j f kf r).1⟩
    intro z
    induction z with
    | zero =>
      intro i v h' e1 i0 i1 F B' hv vb sn sd pc
      have cb := cnt_b (fun x => 0 ≤ aI h' 272 x) (i := S 0 ^ m) (by omega)
      rw [← B'.1] at cb
      exact r262_2 (F.C C) ⟨by omega, fun _ => fin i v h' (by omega) F B' sn sd pc, fun y => absurd (by omega) y⟩
    | succ z ih =>
      intro i v h' e1 i0 i1 F B' hv vb sn sd pc
      have cb := cnt_b (fun x => 0 ≤ aI h' 272 x) (i := S 0 ^ m) (by omega)
      rw [← B'.1] at cb
      refine r262_2 (F.C C) ⟨by omega, fun y => fin i v h' y F B' sn sd pc, fun c => ⟨by omega, ?_⟩⟩
      have bi := B'.2.1 i i0 (by omega)
      have s' := ks h' F
      have vi := hv (by omega)
      have vr := aI_rg h' 272 (aI h' 273 i)
      -- no row is longer than the queue
      have kd := dcd_K hn m (aI h' 273 i)
      have ed := enc_dcd hn m (aI h' 273 i) bi.1.1 bi.1.2
      refine m263 (f := dcd (S 0) m (aI h' 273 i)) (v := aI h' 272 (aI h' 273 i) + 1) (F.C C) (by omega) s'.1 W hM hn hm s'.2 kd ed.symm (B'.up vi) rfl (by omega) gw (fun h7 B7 X7 p7 => ⟨rfl, X7.1.1, ?_⟩)
      obtain ⟨x1, x2, x3, x4, x5⟩ := X7
      have qi : aI h7 273 i = aI h' 273 i := x3 i i0 (by omega)
      have pi : aI h7 272 (aI h' 273 i) = aI h' 272 (aI h' 273 i) := x4 _ bi.1.1 bi.1.2 bi.2.1
      have sm : ∀ f, Kf m (S 0) f → 0 ≤ aI h' 272 (enc (S 0) m f) → aI h7 272 (enc (S 0) m f) = aI h' 272 (enc (S 0) m f) := fun f kf pf => x4 _ (eb f kf).1 (eb f kf).2 pf
      refine ih (i + 1) (aI h' 272 (aI h' 273 i) + 1) h7 (by omega) (by omega) (by omega) (F.tr x1) B7 (fun c2 => ?_) (by omega) (fun f kf pf => ?_) (fun f kf gf => ?_) (fun x y0 y1 g kg eg => ?_)
      · have := B7.2.2.1 i (i + 1) i0 (by omega) c2
        rw [qi, pi] at this
        omega
      · by_cases c2 : 0 ≤ aI h' 272 (enc (S 0) m f)
        · rw [sm f kf c2]; exact sn f kf c2
        · obtain ⟨ev, g, kg, eg, ed'⟩ := x5 _ (eb f kf).1 (eb f kf).2 (by omega) pf
          have fg : f = g := enc_inj hn kf kg eg
          subst fg
          rw [ev, show (aI h' 272 (aI h' 273 i) + 1).toNat = (aI h' 272 (aI h' 273 i)).toNat + 1 by omega]
          refine ⟨_, ed', ?_⟩
          have := sn _ kd (by rw [ed]; exact bi.2.1)
          rw [ed] at this
          exact this
      · have := sd f kf gf
        rw [sm f kf (by omega)]; exact this
      · by_cases c2 : x = i
        · subst c2
          rw [qi] at eg ⊢
          have pp := p7 g eg
          obtain ⟨y, hy, ey⟩ := B7.2.2.2.1 _ (eb g kg).1 (eb g kg).2 pp
          have := (B7.2.1 y hy.1 hy.2).2.2
          rw [ey] at this
          rw [pi]
          exact ⟨pp, this⟩
        · have bx := B'.2.1 x y0 (by omega)
          rw [x3 x y0 (by omega)] at eg ⊢
          have := pc x y0 (by omega) g kg eg
          rw [sm g kg this.1, x4 _ bx.1.1 bx.1.2 bx.2.1]
          exact this
  refine r262_0 C ?_
  have cb := cnt_b (fun x => 0 ≤ aI h 272 x) (i := S 0 ^ m) (by omega)
  rw [← B.1] at cb
  exact lp (S 0 ^ m).toNat 0 0 h (by omega) (by omega) (by omega) Fr.rf B (fun c => by have := B.2.1 0 (by omega) c; omega) (by omega) sn sd (fun i i0 i1 => by omega)
-- OutwardDoorsModel.clears(I)V at 0
set_option maxRecDepth 20000 in
set_option maxHeartbeats 4000000 in
theorem r257_0 {X : Cst} {d : Nat} {x1 : Int} {h : AH} {Q : Post} (C_h : Lay h)
  (w : Ex X PG (d + 1) 257 12 [some (.ref 256), some (.int (J x1)), some (.int (J 0))] [] (wF (wF h 256 32 x1) 256 31 0) Q) :
    Ex X PG (d + 1) 257 0 [some (.ref 256), some (.int (J x1)), none] [] h Q := by
  refine wpx_ok (cut := [12]) 8 d 257 0 _ _ _ _ ?_
  show hs h 256 = (0, 11) ∧ hs (wG h 256 32 (J x1)) 256 = (0, 11) ∧ Ex X PG (d + 1) 257 12 [some (.ref 256), some (.int (J x1)), some (.int (J 0))] [] (wG (wG h 256 32 (J x1)) 256 31 (J 0)) Q
  try simp only [aI_wAL, fI_wAL, aL_wA, aL_wF, aI_wA_ne, aI_wF_ne, fI_wA_ne, fI_wF_ne, fI_wF_nk, aL_wAL_ne, J_sameA, J_sameF, aL_same, Nat.add_left_cancel_iff, Nat.add_eq_left, Nat.left_eq_add, not_false_eq_true, Nat.reduceEqDiff, Nat.reduceAdd, J_add, J_sub, J_mul, J_neg, J_and, J_or, J_xor, J_shl, J_shr, J_div, J_i2b, J_i2l, J_l2i, J_lcm, J_max, J_min, J_nab, J_nao, rdA, rdF, rdL, wA_fold, wF_fold, wL_fold, wC_fold]
  refine ⟨(ls256 C_h), ?_⟩
  refine ⟨(ls256 C_h), ?_⟩
  exact w
-- OutwardDoorsModel.clears(I)V at 12
set_option maxRecDepth 20000 in
set_option maxHeartbeats 4000000 in
theorem r257_12 {X : Cst} {d : Nat} {x1 : Int} {x2 : Int} {h : AH} {Q : Post} (C_h : Lay h) (hd : 1 ≤ d)
  (w : (0 ≤ x1 ∧ x1 ≤ 5) ∧ (0 < aI h 266 0 ∧ aI h 266 0 ≤ 8) ∧ (-2147483648 ≤ x2 ∧ x2 < 2147483648) ∧ ((pwi (aI h 266 0) x1 ≤ x2 → Q none h) ∧ (¬ pwi (aI h 266 0) x1 ≤ x2 → (0 ≤ x2 ∧ x2 < 32768) ∧ Ex X PG (d + 1) 257 12 [some (.ref 256), some (.int (J x1)), some (.int (J (x2 + 1)))] [] (wA h 272 x2 (-1)) Q))) :
    Ex X PG (d + 1) 257 12 [some (.ref 256), some (.int (J x1)), some (.int (J x2))] [] h Q := by
  refine wpx_ok (cut := [12]) 12 d 257 12 _ _ _ _ ?_
  show hs h 256 = (0, 11) ∧ Ex X PG d 258 0 [some (.ref 256), some (.int (J x1)), none, none] [] h (fun v1 h2 => ∃ r3, v1 = some (.int r3) ∧ ((r3 ≤ (J x2) → Q none h2) ∧ (¬ (r3 ≤ (J x2)) → hs h2 256 = (0, 11) ∧ ∃ q9, hR h2 256 29 = some q9 ∧ (hs h2 q9).1 = 1 ∧ ix (J x2) (hs h2 q9).2 ∧ Ex X PG (d + 1) 257 12 [some (.ref 256), some (.int (J x1)), some (.int ((J x2) + (J 1)))] [] (wI h2 q9 (Int32.toNatClampNeg (J x2)) (J (-1))) Q)))
  try simp only [aI_wAL, fI_wAL, aL_wA, aL_wF, aI_wA_ne, aI_wF_ne, fI_wA_ne, fI_wF_ne, fI_wF_nk, aL_wAL_ne, J_sameA, J_sameF, aL_same, Nat.add_left_cancel_iff, Nat.add_eq_left, Nat.left_eq_add, not_false_eq_true, Nat.reduceEqDiff, Nat.reduceAdd, J_add, J_sub, J_mul, J_neg, J_and, J_or, J_xor, J_shl, J_shr, J_div, J_i2b, J_i2l, J_l2i, J_lcm, J_max, J_min, J_nab, J_nao, rdA, rdF, rdL, wA_fold, wF_fold, wL_fold, wC_fold]
  refine ⟨(ls256 C_h), ?_⟩
  obtain ⟨k4, w⟩ := w
  obtain ⟨k5, w⟩ := w
  refine m258 (h := h) (p := x1) C_h (by omega) k4 k5 ?_
  refine ⟨_, rfl, ?_⟩
  try simp only [aI_wAL, fI_wAL, aL_wA, aL_wF, aI_wA_ne, aI_wF_ne, fI_wA_ne, fI_wF_ne, fI_wF_nk, aL_wAL_ne, J_sameA, J_sameF, aL_same, Nat.add_left_cancel_iff, Nat.add_eq_left, Nat.left_eq_add, not_false_eq_true, Nat.reduceEqDiff, Nat.reduceAdd, J_add, J_sub, J_mul, J_neg, J_and, J_or, J_xor, J_shl, J_shr, J_div, J_i2b, J_i2l, J_l2i, J_lcm, J_max, J_min, J_nab, J_nao, rdA, rdF, rdL, wA_fold, wF_fold, wL_fold, wC_fold]
  obtain ⟨k8, w⟩ := w
  refine ⟨fun c6 => ?_, fun c6 => ?_⟩
  · have t7 : pwi (aI h 266 0) x1 ≤ x2 := ((Jle (pwi_rg _ _) k8).mp c6)
    replace w := w.1 t7
    exact w
  · have t7 : ¬ pwi (aI h 266 0) x1 ≤ x2 := (fun e => c6 ((Jle (pwi_rg _ _) k8).mpr e))
    replace w := w.2 t7
    refine ⟨(ls256 C_h), _, (lr256_29 C_h), ?_⟩
    obtain ⟨k10, w⟩ := w
    refine ⟨congrArg Prod.fst (ls272 C_h), ixs (ls272 C_h) k10 (by decide), ?_⟩
    exact w
theorem m257 {X : Cst} {d : Nat} {m : Int} {h : AH} {Q : Post} (C : Lay h) (hd : 2 ≤ d) (hm : 0 ≤ m ∧ m ≤ 5) (hn : 0 < aI h 266 0 ∧ aI h 266 0 ≤ 8)
    (k : ∀ h', Fr TB2 h h' → fI h' 256 31 = 0 → fI h' 256 32 = m → (∀ x, 0 ≤ x → x < aI h 266 0 ^ m.toNat → aI h' 272 x = -1) → Q none h') : Ex X PG d 257 0 [some (.ref 256), some (.int (J m)), none] [] h Q := by
  obtain ⟨d, rfl⟩ : ∃ e, d = e + 1 := ⟨d - 1, by omega⟩
  have pw := pw_32k hn.1 hn.2 (m := m.toNat) (by omega)
  have F0 : Fr TB2 h (wF (wF h 256 32 m) 256 31 0) := ((Fr.rf (T := TB2)).wF (by unfold TB2; omega)).wF (by unfold TB2 TB; omega)
  have lp : ∀ (z : Nat) (i : Int) (h' : AH), aI h 266 0 ^ m.toNat - i = z → 0 ≤ i → Fr TB2 h h' → fI h' 256 31 = 0 → fI h' 256 32 = m → (∀ x, 0 ≤ x → x < i → aI h' 272 x = -1) → Ex X PG (d + 1) 257 12 [some (.ref 256), some (.int (J m)), some (.int (J i))] [] h' Q := by
    intro z
    induction z with
    | zero =>
      intro i h' e i0 F f1 f2 a
      refine r257_12 (F.C C) (by omega) ?_
      rw [F.a 266 (fun k z => by unfold TB2 TB at z; omega), pwi_e hn hm]
      exact ⟨hm, hn, by omega, fun _ => k h' F f1 f2 (fun x x0 x1 => a x x0 (by omega)), fun y => absurd (by omega) y⟩
    | succ z ih =>
      intro i h' e i0 F f1 f2 a
      refine r257_12 (F.C C) (by omega) ?_
      rw [F.a 266 (fun k z => by unfold TB2 TB at z; omega), pwi_e hn hm]
      refine ⟨hm, hn, by omega, fun y => absurd y (by omega), fun _ => ⟨by omega, ?_⟩⟩
      refine ih (i + 1) _ (by omega) (by omega) (F.wA (by unfold TB2 TB; omega)) (by rw [fI_wA_ne (by decide)]; exact f1) (by rw [fI_wA_ne (by decide)]; exact f2) (fun x x0 x1 => ?_)
      rw [aI_wA (by decide)]
      by_cases q : x = i
      · subst q; rw [uu_eq]
      · rw [uu_ne (by omega) (by omega) q]; exact a x x0 (by omega)
  refine r257_0 C ?_
  exact lp (aI h 266 0 ^ m.toNat).toNat 0 _ (by omega) (by omega) F0 (by rw [fI_wF_eq (by decide)]) (by rw [fI_wF_nk (by decide), fI_wF_eq (by omega)]) (fun x x0 x1 => by omega)
-- OutwardDoorsModel.fillsPassings(III)V at 0
set_option maxRecDepth 20000 in
set_option maxHeartbeats 4000000 in
theorem r256_0 {X : Cst} {d : Nat} {x1 : Int} {x2 : Int} {x3 : Int} {h : AH} {Q : Post} (C_h : Lay h)
  (w : Ex X PG d 257 0 [some (.ref 256), some (.int (J x2)), none] [] h (fun v1 h2 => v1 = none ∧ SH h h2 ∧ Ex X PG (d + 1) 256 8 [some (.ref 256), some (.int (J x1)), some (.int (J x2)), some (.int (J x3)), some (.int (J 0))] [] h2 Q)) :
    Ex X PG (d + 1) 256 0 [some (.ref 256), some (.int (J x1)), some (.int (J x2)), some (.int (J x3)), none] [] h Q := by
  refine wpx_ok (cut := [8]) 5 d 256 0 _ _ _ _ ?_
  show hs h 256 = (0, 11) ∧ Ex X PG d 257 0 [some (.ref 256), some (.int (J x2)), none] [] h (fun v1 h2 => v1 = none ∧ Ex X PG (d + 1) 256 8 [some (.ref 256), some (.int (J x1)), some (.int (J x2)), some (.int (J x3)), some (.int (J 0))] [] h2 Q)
  try simp only [aI_wAL, fI_wAL, aL_wA, aL_wF, aI_wA_ne, aI_wF_ne, fI_wA_ne, fI_wF_ne, fI_wF_nk, aL_wAL_ne, J_sameA, J_sameF, aL_same, Nat.add_left_cancel_iff, Nat.add_eq_left, Nat.left_eq_add, not_false_eq_true, Nat.reduceEqDiff, Nat.reduceAdd, J_add, J_sub, J_mul, J_neg, J_and, J_or, J_xor, J_shl, J_shr, J_div, J_i2b, J_i2l, J_l2i, J_lcm, J_max, J_min, J_nab, J_nao, rdA, rdF, rdL, wA_fold, wF_fold, wL_fold, wC_fold]
  refine ⟨(ls256 C_h), ?_⟩
  refine Ex.mono w (Nat.le_refl _) ?_
  rintro v1 h2 ⟨rfl, s3, w⟩
  refine ⟨rfl, ?_⟩
  have C_h2 := Lay_SH s3 C_h
  try simp only [aI_wAL, fI_wAL, aL_wA, aL_wF, aI_wA_ne, aI_wF_ne, fI_wA_ne, fI_wF_ne, fI_wF_nk, aL_wAL_ne, J_sameA, J_sameF, aL_same, Nat.add_left_cancel_iff, Nat.add_eq_left, Nat.left_eq_add, not_false_eq_true, Nat.reduceEqDiff, Nat.reduceAdd, J_add, J_sub, J_mul, J_neg, J_and, J_or, J_xor, J_shl, J_shr, J_div, J_i2b, J_i2l, J_l2i, J_lcm, J_max, J_min, J_nab, J_nao, rdA, rdF, rdL, wA_fold, wF_fold, wL_fold, wC_fold]
  exact w
-- OutwardDoorsModel.fillsPassings(III)V at 8
set_option maxRecDepth 20000 in
set_option maxHeartbeats 4000000 in
theorem r256_8 {X : Cst} {d : Nat} {x1 : Int} {x2 : Int} {x3 : Int} {x4 : Int} {h : AH} {Q : Post} (C_h : Lay h) (hd : 3 ≤ d)
  (w : (0 ≤ x2 ∧ x2 ≤ 5) ∧ (0 < aI h 266 0 ∧ aI h 266 0 ≤ 8) ∧ (-2147483648 ≤ x4 ∧ x4 < 2147483648) ∧ ((pwi (aI h 266 0) x2 ≤ x4 → Ex X PG d 262 0 [some (.ref 256), some (.int (J x3)), none] [] h (fun v9 h10 => v9 = none ∧ SH h h10 ∧ Q none h10)) ∧ (¬ pwi (aI h 266 0) x2 ≤ x4 → (WF 999 (aI h 266)) ∧ (0 < aI h 266 0) ∧ (0 ≤ x4 ∧ x4 < 32768) ∧ (0 ≤ x1 ∧ x1 < 2147483648) ∧ ((¬ (∀ p, 0 ≤ p → p < aI h 266 2 → bt x1 p → dgt (aI h 266 0) x4 p = pS (aI h 266) p 1) → Ex X PG (d + 1) 256 8 [some (.ref 256), some (.int (J x1)), some (.int (J x2)), some (.int (J x3)), some (.int (J (x4 + 1)))] [] h Q) ∧ ((∀ p, 0 ≤ p → p < aI h 266 2 → bt x1 p → dgt (aI h 266 0) x4 p = pS (aI h 266) p 1) → Ex X PG d 261 0 [some (.ref 256), some (.int (J x4)), some (.int (J 0))] [] h (fun v21 h22 => v21 = none ∧ SH h h22 ∧ Ex X PG (d + 1) 256 8 [some (.ref 256), some (.int (J x1)), some (.int (J x2)), some (.int (J x3)), some (.int (J (x4 + 1)))] [] h22 Q)))))) :
    Ex X PG (d + 1) 256 8 [some (.ref 256), some (.int (J x1)), some (.int (J x2)), some (.int (J x3)), some (.int (J x4))] [] h Q := by
  refine wpx_ok (cut := [8]) 16 d 256 8 _ _ _ _ ?_
  show hs h 256 = (0, 11) ∧ Ex X PG d 258 0 [some (.ref 256), some (.int (J x2)), none, none] [] h (fun v1 h2 => ∃ r3, v1 = some (.int r3) ∧ ((r3 ≤ (J x4) → hs h2 256 = (0, 11) ∧ Ex X PG d 262 0 [some (.ref 256), some (.int (J x3)), none] [] h2 (fun v9 h10 => v9 = none ∧ Q none h10)) ∧ (¬ (r3 ≤ (J x4)) → hs h2 256 = (0, 11) ∧ Ex X PG d 259 0 [some (.ref 256), some (.int (J x4)), some (.int (J x1)), none] [] h2 (fun v12 h13 => ∃ r14, v12 = some (.int r14) ∧ ((r14 = (J 0) → Ex X PG (d + 1) 256 8 [some (.ref 256), some (.int (J x1)), some (.int (J x2)), some (.int (J x3)), some (.int ((J x4) + (J 1)))] [] h13 Q) ∧ (¬ (r14 = (J 0)) → hs h13 256 = (0, 11) ∧ Ex X PG d 261 0 [some (.ref 256), some (.int (J x4)), some (.int (J 0))] [] h13 (fun v21 h22 => v21 = none ∧ Ex X PG (d + 1) 256 8 [some (.ref 256), some (.int (J x1)), some (.int (J x2)), some (.int (J x3)), some (.int ((J x4) + (J 1)))] [] h22 Q)))))))
  try simp only [aI_wAL, fI_wAL, aL_wA, aL_wF, aI_wA_ne, aI_wF_ne, fI_wA_ne, fI_wF_ne, fI_wF_nk, aL_wAL_ne, J_sameA, J_sameF, aL_same, Nat.add_left_cancel_iff, Nat.add_eq_left, Nat.left_eq_add, not_false_eq_true, Nat.reduceEqDiff, Nat.reduceAdd, J_add, J_sub, J_mul, J_neg, J_and, J_or, J_xor, J_shl, J_shr, J_div, J_i2b, J_i2l, J_l2i, J_lcm, J_max, J_min, J_nab, J_nao, rdA, rdF, rdL, wA_fold, wF_fold, wL_fold, wC_fold]
  refine ⟨(ls256 C_h), ?_⟩
  obtain ⟨k4, w⟩ := w
  obtain ⟨k5, w⟩ := w
  refine m258 (h := h) (p := x2) C_h (by omega) k4 k5 ?_
  refine ⟨_, rfl, ?_⟩
  try simp only [aI_wAL, fI_wAL, aL_wA, aL_wF, aI_wA_ne, aI_wF_ne, fI_wA_ne, fI_wF_ne, fI_wF_nk, aL_wAL_ne, J_sameA, J_sameF, aL_same, Nat.add_left_cancel_iff, Nat.add_eq_left, Nat.left_eq_add, not_false_eq_true, Nat.reduceEqDiff, Nat.reduceAdd, J_add, J_sub, J_mul, J_neg, J_and, J_or, J_xor, J_shl, J_shr, J_div, J_i2b, J_i2l, J_l2i, J_lcm, J_max, J_min, J_nab, J_nao, rdA, rdF, rdL, wA_fold, wF_fold, wL_fold, wC_fold]
  obtain ⟨k8, w⟩ := w
  refine ⟨fun c6 => ?_, fun c6 => ?_⟩
  · have t7 : pwi (aI h 266 0) x2 ≤ x4 := ((Jle (pwi_rg _ _) k8).mp c6)
    replace w := w.1 t7
    refine ⟨(ls256 C_h), ?_⟩
    refine Ex.mono w (Nat.le_refl _) ?_
    rintro v9 h10 ⟨rfl, s11, w⟩
    refine ⟨rfl, ?_⟩
    have C_h10 := Lay_SH s11 C_h
    try simp only [aI_wAL, fI_wAL, aL_wA, aL_wF, aI_wA_ne, aI_wF_ne, fI_wA_ne, fI_wF_ne, fI_wF_nk, aL_wAL_ne, J_sameA, J_sameF, aL_same, Nat.add_left_cancel_iff, Nat.add_eq_left, Nat.left_eq_add, not_false_eq_true, Nat.reduceEqDiff, Nat.reduceAdd, J_add, J_sub, J_mul, J_neg, J_and, J_or, J_xor, J_shl, J_shr, J_div, J_i2b, J_i2l, J_l2i, J_lcm, J_max, J_min, J_nab, J_nao, rdA, rdF, rdL, wA_fold, wF_fold, wL_fold, wC_fold]
    exact w
  · have t7 : ¬ pwi (aI h 266 0) x2 ≤ x4 := (fun e => c6 ((Jle (pwi_rg _ _) k8).mpr e))
    replace w := w.2 t7
    refine ⟨(ls256 C_h), ?_⟩
    obtain ⟨k15, w⟩ := w
    obtain ⟨k16, w⟩ := w
    obtain ⟨k17, w⟩ := w
    obtain ⟨k18, w⟩ := w
    refine m259 (h := h) (c := x4) (s := x1) C_h (by omega) k15 k16 k17 k18 ?_
    refine ⟨_, rfl, ?_⟩
    try simp only [aI_wAL, fI_wAL, aL_wA, aL_wF, aI_wA_ne, aI_wF_ne, fI_wA_ne, fI_wF_ne, fI_wF_nk, aL_wAL_ne, J_sameA, J_sameF, aL_same, Nat.add_left_cancel_iff, Nat.add_eq_left, Nat.left_eq_add, not_false_eq_true, Nat.reduceEqDiff, Nat.reduceAdd, J_add, J_sub, J_mul, J_neg, J_and, J_or, J_xor, J_shl, J_shr, J_div, J_i2b, J_i2l, J_l2i, J_lcm, J_max, J_min, J_nab, J_nao, rdA, rdF, rdL, wA_fold, wF_fold, wL_fold, wC_fold]
    refine ⟨fun c19 => ?_, fun c19 => ?_⟩
    · have t20 : ¬ (∀ p, 0 ≤ p → p < aI h 266 2 → bt x1 p → dgt (aI h 266 0) x4 p = pS (aI h 266) p 1) := ((bI0 _).mp c19)
      replace w := w.1 t20
      exact w
    · have t20 : (∀ p, 0 ≤ p → p < aI h 266 2 → bt x1 p → dgt (aI h 266 0) x4 p = pS (aI h 266) p 1) := (Classical.byContradiction fun n => c19 ((bI0 _).mpr n))
      replace w := w.2 t20
      refine ⟨(ls256 C_h), ?_⟩
      refine Ex.mono w (Nat.le_refl _) ?_
      rintro v21 h22 ⟨rfl, s23, w⟩
      refine ⟨rfl, ?_⟩
      have C_h22 := Lay_SH s23 C_h
      try simp only [aI_wAL, fI_wAL, aL_wA, aL_wF, aI_wA_ne, aI_wF_ne, fI_wA_ne, fI_wF_ne, fI_wF_nk, aL_wAL_ne, J_sameA, J_sameF, aL_same, Nat.add_left_cancel_iff, Nat.add_eq_left, Nat.left_eq_add, not_false_eq_true, Nat.reduceEqDiff, Nat.reduceAdd, J_add, J_sub, J_mul, J_neg, J_and, J_or, J_xor, J_shl, J_shr, J_div, J_i2b, J_i2l, J_l2i, J_lcm, J_max, J_min, J_nab, J_nao, rdA, rdF, rdL, wA_fold, wF_fold, wL_fold, wC_fold]
      exact w
/-- what was seeded so far -/
def SDx (G : (Int → Int) → Prop) (b : Int) (m : Nat) (h : AH) (c : Int) : Prop := (∀ x, 0 ≤ x → x < c → (0 ≤ aI h 272 x ↔ G (dcd b m x))) ∧ ∀ x, c ≤ x → x < b ^ m → aI h 272 x = -1
theorem BQ_0 {h : AH} {N : Int} (hN : 0 ≤ N) (e : fI h 256 31 = 0) (a : ∀ x, 0 ≤ x → x < N → aI h 272 x = -1) : BQ h N 0 := by
  refine ⟨?_, fun j j0 j1 => by omega, fun i j i0 ij j1 => by omega, fun x x0 x1 x2 => by have := a x x0 x1; omega, fun x x0 x1 => by have := a x x0 x1; omega⟩
  rw [e]
  have : cnt (fun x => 0 ≤ aI h 272 x) N = cnt (fun _ => False) N := cnt_cong (fun q q0 q1 => ⟨fun z => by have := a q q0 q1; omega, fun z => z.elim⟩)
  rw [this]
  unfold cnt
  exact (sumN_bI_0 _ (fun _ _ _ z => z)).symm
/-- one more is tried, and reached or not -/
theorem SDx.s {G : (Int → Int) → Prop} {b : Int} {m : Nat} {h h' : AH} {c : Int} (x : SDx G b m h c) (hc : 0 ≤ c ∧ c < b ^ m) (X' : BX h h' (b ^ m) 0 (fun y => y = c)) (e : 0 ≤ aI h' 272 c ↔ G (dcd b m c)) (B : BQ h' (b ^ m) 0) : SDx G b m h' (c + 1) := by
  obtain ⟨_, _, _, x4, x5⟩ := X'
  have lo : ∀ y, 0 ≤ y → y < b ^ m → ¬ y = c → (0 ≤ aI h' 272 y ↔ 0 ≤ aI h 272 y) := by
    intro y y0 y1 y2
    constructor
    · intro z
      apply Classical.byContradiction
      intro w
      exact y2 (x5 y y0 y1 (by omega) z).2
    · intro z; rw [x4 y y0 y1 z]; exact z
  refine ⟨fun y y0 y1 => ?_, fun y y0 y1 => ?_⟩
  · by_cases q : y = c
    · subst q; exact e
    · rw [lo y y0 (by omega) q]; exact x.1 y y0 (by omega)
  · have a := x.2 y (by omega) y1
    have l := lo y (by omega) y1 (by omega)
    have := B.2.2.2.2 y (by omega) y1
    have : ¬ 0 ≤ aI h' 272 y := fun z => by have := l.mp z; omega
    omega
theorem SDx.end {E : (Int → Int) → (Int → Int) → Prop} {G : (Int → Int) → Prop} {b : Int} {m : Nat} {h : AH} (hb : 0 < b) (x : SDx G b m h (b ^ m)) (B : BQ h (b ^ m) 0) : SND E G b m h ∧ SED G b m h := by
  have z : ∀ f, Kf m b f → 0 ≤ aI h 272 (enc b m f) → aI h 272 (enc b m f) = 0 := by
    intro f kf pf
    have eb := enc_b hb m f kf.1
    obtain ⟨j, hj, ej⟩ := B.2.2.2.1 _ eb.1 eb.2 pf
    have := (B.2.1 j hj.1 hj.2).2.2
    rw [ej] at this
    omega
  refine ⟨fun f kf pf => ?_, fun f kf gf => ?_⟩
  · have eb := enc_b hb m f kf.1
    rw [z f kf pf]
    have := (x.1 _ eb.1 eb.2).mp pf
    rw [dcd_enc hb kf] at this
    exact this
  · have eb := enc_b hb m f kf.1
    exact z f kf ((x.1 _ eb.1 eb.2).mpr (by rw [dcd_enc hb kf]; exact gf))
theorem m256 {X : Cst} {d : Nat} {m s w M : Int} {S : Int → Int} {h : AH} {Q : Post} (C : Lay h) (hd : 7 ≤ d) (eS : aI h 266 = S) (W : WF M S) (hM : M ≤ 999) (hn : 0 < S 0) (hm : S 2 ≤ m ∧ m ≤ 5) (hs' : 0 ≤ s ∧ s < 2147483648) (gw : -2147483648 ≤ w ∧ w < 2147483648)
    (k : ∀ h', Fr TB2 h h' → (∀ f, Kf m.toNat (S 0) f → IsD (Edg S (nightP S) m.toNat w) (atG S s) f (aI h' 272 (enc (S 0) m.toNat f))) → Q none h') : Ex X PG d 256 0 [some (.ref 256), some (.int (J s)), some (.int (J m)), some (.int (J w)), none] [] h Q := by
  obtain ⟨d, rfl⟩ : ∃ e, d = e + 1 := ⟨d - 1, by omega⟩
  have b := W.1
  unfold WFb at b
  have hn8 : 0 < S 0 ∧ S 0 ≤ 8 := by omega
  have pw := pw_32k hn8.1 hn8.2 (m := m.toNat) (by omega)
  have W9 : WF 999 S := W.up hM
  refine r256_0 C ?_
  refine m257 C (by omega) (by omega) (by rw [eS]; exact hn8) (fun h2 F2 f31 f32 a2 => ⟨rfl, F2.1, ?_⟩)
  rw [eS] at a2
  have lp : ∀ (z : Nat) (i : Int) (h' : AH), S 0 ^ m.toNat - i = z → 0 ≤ i → Fr TB2 h h' → fI h' 256 32 = m → BQ h' (S 0 ^ m.toNat) 0 → SDx (atG S s) (S 0) m.toNat h' i → Ex X PG (d + 1) 256 8 [some (.ref 256), some (.int (J s)), some (.int (J m)), some (.int (J w)), some (.int (J i))] [] h' Q := by
    intro z
    induction z with
    | zero =>
      intro i h' e i0 F f2 B x
      have e6 : aI h' 266 = S := by rw [F.a 266 (fun k z => by unfold TB2 TB at z; omega)]; exact eS
      refine r256_8 (F.C C) (by omega) ?_
      rw [e6, pwi_e hn8 (by omega)]
      refine ⟨by omega, hn8, by omega, fun _ => ?_, fun y => absurd (by omega) y⟩
      have ei : i = S 0 ^ m.toNat := by omega
      subst ei
      obtain ⟨sn, sd⟩ := x.end (E := Edg S (nightP S) m.toNat w) hn B
      exact m262 (F.C C) (by omega) e6 W hM hn (by omega) (by omega) B sn sd gw (fun h10 F10 r10 => ⟨rfl, F10.1, k h10 (F.tr (F10.mo fun c k z => Or.inl z)) r10⟩)
    | succ z ih =>
      intro i h' e i0 F f2 B x
      have e6 : aI h' 266 = S := by rw [F.a 266 (fun k z => by unfold TB2 TB at z; omega)]; exact eS
      refine r256_8 (F.C C) (by omega) ?_
      rw [e6, pwi_e hn8 (by omega)]
      have kd := dcd_K hn m.toNat i
      have ed := enc_dcd hn m.toNat i i0 (by omega)
      have eq : (∀ p, 0 ≤ p → p < S 2 → bt s p → dgt (S 0) i p = pS S p 1) ↔ atG S s (dcd (S 0) m.toNat i) := by
        have dg : ∀ p, 0 ≤ p → p < S 2 → dgt (S 0) i p = dcd (S 0) m.toNat i p := fun p p0 p1 => by
          have := dgt_enc hn8 kd (p := p) (by omega)
          rw [ed] at this; exact this
        exact ⟨fun z p p0 p1 hb => by rw [← dg p p0 p1]; exact z p p0 p1 hb, fun z p p0 p1 hb => by rw [dg p p0 p1]; exact z p p0 p1 hb⟩
      refine ⟨by omega, hn8, by omega, fun y => absurd y (by omega), fun _ => ⟨W9, hn, by omega, hs', fun c => ?_, fun c => ?_⟩⟩
      · refine ih (i + 1) h' (by omega) (by omega) F f2 B (x.s (by omega) BX.rf ?_ B)
        have := x.2 i (Int.le_refl i) (by omega)
        exact ⟨fun z => by omega, fun z => absurd (eq.mpr z) c⟩
      · refine m261 (N := S 0 ^ m.toNat) (v := 0) (F.C C) (by omega) B (by omega) (by omega) (by decide) (fun h3 B3 X3 p3 => ⟨rfl, X3.1.1, ?_⟩)
        exact ih (i + 1) h3 (by omega) (by omega) (F.tr (X3.1.mo fun c k z => Or.inl z)) (by rw [X3.1.f 256 32 (fun z => by unfold TB at z; omega)]; exact f2) B3 (x.s (by omega) X3 ⟨fun _ => eq.mp c, fun _ => p3⟩ B3)
  exact lp (S 0 ^ m.toNat).toNat 0 h2 (by omega) (by omega) F2 f32 (BQ_0 (by omega) f31 a2) ⟨fun x x0 x1 => by omega, fun x x0 x1 => a2 x x0 x1⟩
