/-! THE CLASS: a search's log on the heap. -/
def lbo3 (t : Int × Int × Int) : Int := lbo t.1 t.2.1 t.2.2
def LG (h : AH) (mk qu ln m : Nat) (n : Int) (st : Int → Int → Int) (pa : Int → Int) (la : Int → Int × Int × Int) (R T : Int) : Prop :=
  fI h 247 6 = T ∧ (∀ i, 0 ≤ i → i < T → Kf m n (st i) ∧ aI h qu i = enc 8 m (st i)) ∧ (∀ i, 0 ≤ i → i < R → aI h mk (enc 8 m (st i)) = 67108864) ∧
  (∀ i, R ≤ i → i < T → aI h mk (enc 8 m (st i)) = mko (lbo3 (la i)) (enc 8 m (st (pa i)))) ∧ (∀ x : Int, 0 ≤ x → x < ln → ¬ aI h mk x = 0 → ∃ i, (0 ≤ i ∧ i < T) ∧ x = enc 8 m (st i)) ∧ T = cnt (fun x => ¬ aI h mk x = 0) ln
def TSe (mk qu c k : Nat) : Prop := c = mk ∨ c = qu ∨ (c = 247 ∧ k = 6)
def apS (pl mk qu : Nat) : Prop := (mk = 248 ∨ 281 ≤ mk) ∧ (qu = 249 ∨ 281 ≤ qu) ∧ ¬ mk = qu ∧ (mk < pl ∨ pl + 10 < mk) ∧ (qu < pl ∨ pl + 10 < qu)
theorem m119 {X : Cst} {d pl mk qu ln : Nat} {x v T : Int} {h : AH} {Q : Post} (C : Lay h) (K : PlanAt h pl) (B : SeaAt h pl mk qu ln) (ap : apS pl mk qu) (hd : 1 ≤ d) (hx : 0 ≤ x ∧ x < ln) (eT : fI h 247 6 = T) (cT : T = cnt (fun x => ¬ aI h mk x = 0) ln)
    (k1 : ¬ aI h mk x = 0 → Q none h) (k2 : aI h mk x = 0 → 0 ≤ T → T < ln → Q none (wF (wA (wA h mk x v) qu T x) 247 6 (T + 1))) : Ex X PG d 119 0 [some (.ref 247), some (.int (J x)), some (.int (J v))] [] h Q := by
  obtain ⟨d, rfl⟩ : ∃ e, d = e + 1 := ⟨d - 1, by omega⟩
  have l := B.2.2.2.2.2
  have cb := cnt_b (fun x => ¬ aI h mk x = 0) (i := (ln : Int)) (by omega)
  refine r119_0 C K B ap ?_
  rw [eT]
  refine ⟨by omega, fun c => absurd c (by omega), fun _ => ⟨by omega, fun c => absurd c (by omega), fun _ => ⟨hx, fun c => k1 c, fun c => ?_⟩⟩⟩
  have ca := cnt_add (P := fun y => ¬ aI h mk y = 0) (R := fun y => ¬ aI h mk y = 0 ∨ y = x) (p := x) (n := (ln : Int)) hx (fun q _ _ ne => ⟨fun z => Or.inl z, fun z => z.elim (fun y => y) (fun y => absurd y ne)⟩) (fun z => z c) (Or.inr rfl)
  have cb2 := cnt_b (fun y => ¬ aI h mk y = 0 ∨ y = x) (i := (ln : Int)) (by omega)
  exact ⟨fun z => absurd z (by omega), fun _ => ⟨by omega, k2 c (by omega) (by omega)⟩⟩
/-- one more in the log -/
theorem LG_add {h h' : AH} {mk qu ln m pl : Nat} {n v R T : Int} {st : Int → Int → Int} {pa : Int → Int} {la : Int → Int × Int × Int} {g : Int → Int} (ap : apS pl mk qu) (L : LG h mk qu ln m n st pa la R T) (hn : n ≤ 8) (kg : Kf m n g) (hl : (8 : Int) ^ m ≤ ln) (hln : (ln : Int) ≤ 32768) (hT : 0 ≤ R ∧ R ≤ T) (e0 : aI h mk (enc 8 m g) = 0) (hv : 0 < v ∧ v < 2147483648) (T1 : T < ln) (nz : ∀ i, 0 ≤ i → i < T → ¬ aI h mk (enc 8 m (st i)) = 0) (eh : wF (wA (wA h mk (enc 8 m g) v) qu T (enc 8 m g)) 247 6 (T + 1) = h') :
    Fr (TSe mk qu) h h' ∧ fI h' 247 6 = T + 1 ∧ aI h' mk (enc 8 m g) = v ∧ (∀ x : Int, 0 ≤ x → x < ln → ¬ x = enc 8 m g → aI h' mk x = aI h mk x) ∧ aI h' qu T = enc 8 m g ∧ (∀ i, 0 ≤ i → i < T → aI h' qu i = aI h qu i) ∧ T + 1 = cnt (fun x => ¬ aI h' mk x = 0) ln ∧ (∀ i, 0 ≤ i → i < T → ¬ st i = g) := by
  subst eh
  obtain ⟨l1, l2, l3, l4, l5, l6⟩ := L
  have kg8 := kg.up hn
  have eg := enc_b (b := 8) (by decide) m g kg8.1
  obtain ⟨a1, a2, a3, a4, a5⟩ := ap
  have F : Fr (TSe mk qu) h (wF (wA (wA h mk (enc 8 m g) v) qu T (enc 8 m g)) 247 6 (T + 1)) := (((Fr.rf (T := TSe mk qu)).wA (by unfold TSe; omega)).wA (by unfold TSe; omega)).wF (by unfold TSe; omega)
  have em : aI (wF (wA (wA h mk (enc 8 m g) v) qu T (enc 8 m g)) 247 6 (T + 1)) mk = uu_ (aI h mk) (enc 8 m g) v := by rw [aI_wF_ne (by omega), aI_wA_ne (by omega), aI_wA (by omega)]
  have eq : aI (wF (wA (wA h mk (enc 8 m g) v) qu T (enc 8 m g)) 247 6 (T + 1)) qu = uu_ (aI h qu) T (enc 8 m g) := by rw [aI_wF_ne (by omega), aI_wA (by omega), aI_wA_ne (by omega)]
  refine ⟨F, fI_wF_eq (by omega), ?_, fun x x0 x1 x2 => ?_, ?_, fun i i0 i1 => ?_, ?_, fun i i0 i1 z => ?_⟩
  · rw [em, uu_eq]
  · rw [em, uu_ne (by omega) (by omega) x2]
  · rw [eq, uu_eq]
  · rw [eq, uu_ne (by omega) (by omega) (by omega)]
  · rw [em, l6]
    refine (cnt_add (p := enc 8 m g) (by omega) (fun q q0 q1 ne => by rw [uu_ne (by omega) (by omega) ne]) (fun z => z e0) (by rw [uu_eq]; omega)).symm
  · rw [← z] at e0
    exact nz i i0 i1 e0
theorem Lbl_rw {S : Int → Int} {t : Prop} {m : Nat} {w : Int} {f g : Int → Int} {p d q : Int} (h : Lbl S t m w f p d q g) : (0 ≤ p ∧ p < m) ∧ (0 ≤ d ∧ d < S 1) ∧ (-1 ≤ q ∧ q < m) := by
  obtain ⟨h1, h2, h3, h4⟩ := h
  refine ⟨h3, h1, ?_⟩
  rcases h4 with ⟨_, ⟨z, _⟩ | ⟨z, _⟩⟩ | ⟨_, z, _⟩ <;> omega
theorem Lbl_w {S : Int → Int} {t : Prop} {m : Nat} {w : Int} {f g : Int → Int} {p d q : Int} (h : Lbl S t m (-1) f p d q g) : Lbl S t m w f p d q g := by
  obtain ⟨h1, h2, h3, h4⟩ := h
  refine ⟨h1, h2, h3, ?_⟩
  rcases h4 with h4 | ⟨z, _⟩
  · exact Or.inl h4
  · omega
theorem lbo_inj {p d q p' d' q' : Int} (e : lbo p d q = lbo p' d' q') (h1 : 0 ≤ p ∧ p < 8) (h2 : 0 ≤ d ∧ d < 16) (h3 : 0 ≤ p' ∧ p' < 8) (h4 : 0 ≤ d' ∧ d' < 16) : p = p' ∧ d = d' ∧ q = q' := by unfold lbo at e; omega
theorem mko_inj {l f l' f' : Int} (e : mko l f = mko l' f') (h1 : 0 ≤ f ∧ f < 32768) (h2 : 0 ≤ f' ∧ f' < 32768) : l = l' ∧ f = f' := by unfold mko at e; omega
section
variable {S : Int → Int} {t : Prop} {m : Nat} {w : Int} {st : Int → Int → Int} {pa : Int → Int} {la : Int → Int × Int × Int} {R T N : Int} {h : AH} {mk qu ln : Nat}
theorem LG_la (W : WF N S) (hm : m ≤ 5) (L : LogOK S t m w st pa la R T) {i : Int} (h1 : R ≤ i) (h2 : i < T) : ((0 ≤ (la i).1 ∧ (la i).1 < 8) ∧ (0 ≤ (la i).2.1 ∧ (la i).2.1 < 16) ∧ (-1 ≤ (la i).2.2 ∧ (la i).2.2 < 7)) ∧ (0 ≤ lbo3 (la i) ∧ lbo3 (la i) < 1024) := by
  have b := W.1
  unfold WFb at b
  have r := Lbl_rw (L.2.2.1 i h1 h2).2
  have q : (0 ≤ (la i).1 ∧ (la i).1 < 8) ∧ (0 ≤ (la i).2.1 ∧ (la i).2.1 < 16) ∧ (-1 ≤ (la i).2.2 ∧ (la i).2.2 < 7) := by omega
  exact ⟨q, lbo_b q.1 q.2.1 q.2.2⟩
theorem LG_nz (W : WF N S) (hm : m ≤ 5) (L : LogOK S t m w st pa la R T) (G : LG h mk qu ln m (S 0) st pa la R T) : ∀ i, 0 ≤ i → i < T → ¬ aI h mk (enc 8 m (st i)) = 0 := by
  intro i i0 i1
  have b := W.1
  unfold WFb at b
  by_cases c : i < R
  · rw [G.2.2.1 i i0 c]; decide
  · have p := (L.2.2.1 i (by omega) i1).1
    have l := (LG_la W hm L (i := i) (by omega) i1).2
    have kp := (G.2.1 (pa i) p.1 (by omega)).1.up b.2.1
    have eb := enc_b (b := 8) (by decide) m _ kp.1
    rw [G.2.2.2.1 i (by omega) i1]
    unfold mko
    omega
end
/-- while the head i is gone from: labels below k are tried -/
def JS (h0 : AH) (mk qu ln m : Nat) (S : Int → Int) (t : Prop) (w R T0 i : Int) (st0 : Int → Int → Int) (pa0 : Int → Int) (la0 : Int → Int × Int × Int) (k : Int) (h : AH) : Prop :=
  ∃ st pa la T, Fr (TSe mk qu) h0 h ∧ LG h mk qu ln m (S 0) st pa la R T ∧ LogOK S t m w st pa la R T ∧ T0 ≤ T ∧ (∀ j, 0 ≤ j → j < T0 → st j = st0 j ∧ pa j = pa0 j ∧ la j = la0 j) ∧ (∀ j, T0 ≤ j → j < T → pa j = i ∧ (w = -1 → lab3 (la j) < k))
def RdS (mk m : Nat) (w : Int) (f : Int → Int) (p e q : Int) (g : Int → Int) (h : AH) : Prop := ¬ aI h mk (enc 8 m g) = 0 ∧ (w = -1 → ∀ p' e' q', (0 ≤ p' ∧ p' < 8) → (0 ≤ e' ∧ e' < 16) → (-1 ≤ q' ∧ q' < 7) → aI h mk (enc 8 m g) = mko (lbo p' e' q') (enc 8 m f) → lab p' e' q' ≤ lab p e q)
theorem SeaAt.fr {T : Nat → Nat → Prop} {h h' : AH} {pl mk qu ln : Nat} (F : Fr T h h') (B : SeaAt h pl mk qu ln) : SeaAt h' pl mk qu ln := SeaAt_SH F.1 B
theorem JS_add {mk qu ln m pl : Nat} {S : Int → Int} {t : Prop} {w R T0 T i N k k' p e q : Int} {st0 st : Int → Int → Int} {pa0 pa : Int → Int} {la0 la : Int → Int × Int × Int} {f g : Int → Int} {h0 h h' : AH}
    (hm : m ≤ 5) (W : WF N S) (hl : (8 : Int) ^ m ≤ ln) (hln : (ln : Int) ≤ 32768) (hi : 0 ≤ i ∧ i < T0) (po : ∀ j, R ≤ j → j < T0 → pa0 j < i) (lb : Lbl S t m w f p e q g) (kg : Kf m (S 0) g) (fi : st i = f)
    (F : Fr (TSe mk qu) h0 h) (L : LG h mk qu ln m (S 0) st pa la R T) (O : LogOK S t m w st pa la R T) (hT : T0 ≤ T) (ag : ∀ j, 0 ≤ j → j < T0 → st j = st0 j ∧ pa j = pa0 j ∧ la j = la0 j) (nw : ∀ j, T0 ≤ j → j < T → pa j = i ∧ (w = -1 → lab3 (la j) < k)) (hk : w = -1 → k ≤ lab p e q) (hk' : k ≤ k' ∧ (w = -1 → lab p e q < k'))
    (A1 : Fr (TSe mk qu) h h') (A2 : fI h' 247 6 = T + 1) (A3 : aI h' mk (enc 8 m g) = mko (lbo p e q) (enc 8 m f)) (A4 : ∀ x : Int, 0 ≤ x → x < ln → ¬ x = enc 8 m g → aI h' mk x = aI h mk x) (A5 : aI h' qu T = enc 8 m g) (A6 : ∀ i, 0 ≤ i → i < T → aI h' qu i = aI h qu i) (A7 : T + 1 = cnt (fun x => ¬ aI h' mk x = 0) ln) (A8 : ∀ i, 0 ≤ i → i < T → ¬ st i = g) : JS h0 mk qu ln m S t w R T0 i st0 pa0 la0 k' h' := by
  have b := W.1
  unfold WFb at b
  have kg8 := kg.up b.2.1
  have eo : ∀ y, 0 ≤ y → y < T → (0 ≤ enc 8 m (st y) ∧ enc 8 m (st y) < ln) ∧ ¬ enc 8 m (st y) = enc 8 m g := by
    intro y y0 y1
    have ky := (L.2.1 y y0 y1).1.up b.2.1
    have := enc_b (b := 8) (by decide) m _ ky.1
    exact ⟨by omega, fun z => A8 y y0 y1 (enc_inj (b := 8) (by decide) ky kg8 z)⟩
  clear hl hln b
  have oR := O.1
  refine ⟨fun x => if x = T then g else st x, fun x => if x = T then i else pa x, fun x => if x = T then (p, e, q) else la x, T + 1, F.tr A1, ⟨A2, fun y y0 y1 => ?_, fun y y0 y1 => ?_, fun y y0 y1 => ?_, fun x x0 x1 x2 => ?_, A7⟩, ⟨⟨O.1.1, by omega⟩, fun x y x0 x1 y0 y1 exy => ?_, fun y y0 y1 => ?_, fun x y x0 xy y1 => ?_⟩, by omega, fun y y0 y1 => ?_, fun y y0 y1 => ?_⟩
  · dsimp only
    by_cases z : y = T
    · subst z; rw [if_pos rfl]; exact ⟨kg, A5⟩
    · rw [if_neg z, A6 y y0 (by omega)]; exact L.2.1 y y0 (by omega)
  · dsimp only
    have oR := O.1
    rw [if_neg (by omega), A4 _ (eo y y0 (by omega)).1.1 (eo y y0 (by omega)).1.2 (eo y y0 (by omega)).2]
    exact L.2.2.1 y y0 y1
  · dsimp only
    have oR := O.1
    by_cases z : y = T
    · subst z
      rw [if_pos rfl, if_pos rfl, if_pos rfl, if_neg (by omega), A3, fi]; rfl
    · have py := (O.2.2.1 y y0 (by omega)).1
      rw [if_neg z, if_neg z, if_neg z, if_neg (by omega), A4 _ (eo y (by omega) (by omega)).1.1 (eo y (by omega) (by omega)).1.2 (eo y (by omega) (by omega)).2]
      exact L.2.2.2.1 y y0 (by omega)
  · by_cases z : x = enc 8 m g
    · exact ⟨T, by omega, by dsimp only; rw [if_pos rfl]; exact z⟩
    · rw [A4 x x0 x1 z] at x2
      obtain ⟨y, hy, ey⟩ := L.2.2.2.2.1 x x0 x1 x2
      exact ⟨y, by omega, by dsimp only; rw [if_neg (by omega)]; exact ey⟩
  · dsimp only at exy
    by_cases zx : x = T
    · by_cases zy : y = T
      · omega
      · rw [if_pos zx, if_neg zy] at exy
        exact absurd exy.symm (A8 y y0 (by omega))
    · by_cases zy : y = T
      · rw [if_neg zx, if_pos zy] at exy
        exact absurd exy (A8 x x0 (by omega))
      · rw [if_neg zx, if_neg zy] at exy
        exact O.2.1 x y x0 (by omega) y0 (by omega) exy
  · dsimp only
    have oR := O.1
    by_cases z : y = T
    · subst z
      rw [if_pos rfl, if_pos rfl, if_pos rfl, if_neg (by omega), fi]
      exact ⟨by omega, lb⟩
    · have py := O.2.2.1 y y0 (by omega)
      rw [if_neg z, if_neg z, if_neg z, if_neg (by omega)]
      exact py
  · dsimp only
    rw [if_neg (show ¬ x = T by omega), if_neg (show ¬ x = T by omega)]
    by_cases z : y = T
    · subst z
      rw [if_pos rfl, if_pos rfl]
      by_cases c2 : T0 ≤ x
      · have := nw x c2 xy
        exact Or.inr ⟨this.1, fun ew => by have := this.2 ew; have := hk ew; show lab3 (la x) < lab p e q; omega⟩
      · have := po x x0 (by omega)
        rw [← (ag x (by have := O.1; omega) (by omega)).2.1] at this
        exact Or.inl this
    · rw [if_neg z, if_neg z]
      exact O.2.2.2 x y x0 xy (by omega)
  · dsimp only
    rw [if_neg (by omega), if_neg (by omega), if_neg (by omega)]
    exact ag y y0 y1
  · dsimp only
    by_cases z : y = T
    · subst z
      rw [if_pos rfl, if_pos rfl]
      exact ⟨rfl, hk'.2⟩
    · rw [if_neg z, if_neg z]
      exact ⟨(nw y y0 (by omega)).1, fun ew => by have := (nw y y0 (by omega)).2 ew; omega⟩
-- OutwardDoors$Search.reach(III)V at 0
set_option maxRecDepth 20000 in
set_option maxHeartbeats 4000000 in
theorem r130_0 {X : Cst} {d : Nat} {x1 : Int} {x2 : Int} {x3 : Int} {pl : Nat} {h : AH} {Q : Post} (C_h : Lay h) (K_h_0 : PlanAt h pl) {mk qu ln : Nat} (B_h : SeaAt h pl mk qu ln) (ap : (mk = 248 ∨ 281 ≤ mk) ∧ (qu = 249 ∨ 281 ≤ qu) ∧ ¬ mk = qu ∧ (mk < pl ∨ pl + 10 < mk) ∧ (qu < pl ∨ pl + 10 < qu))
  (w : Ex X PG d 119 0 [some (.ref 247), some (.int (J x1)), some (.int (J (ior (ior 33554432 (shl x3 (iand 15 31))) x2)))] [] h (fun v1 h2 => v1 = none ∧ SH h h2 ∧ Q none h2)) :
    Ex X PG (d + 1) 130 0 [some (.ref 247), some (.int (J x1)), some (.int (J x2)), some (.int (J x3))] [] h Q := by
  refine wpx_ok (cut := []) 11 d 130 0 _ _ _ _ ?_
  show hs h 247 = (0, 7) ∧ Ex X PG d 119 0 [some (.ref 247), some (.int (J x1)), some (.int (((J 33554432) ||| ((J x3) <<< ((J 15) &&& J 31))) ||| (J x2)))] [] h (fun v1 h2 => v1 = none ∧ Q none h2)
  try simp only [aI_wAL, fI_wAL, aL_wA, aL_wF, aI_wA_ne, aI_wF_ne, fI_wA_ne, fI_wF_ne, fI_wF_nk, aL_wAL_ne, J_sameA, J_sameF, aL_same, Nat.add_left_cancel_iff, Nat.add_eq_left, Nat.left_eq_add, not_false_eq_true, Nat.reduceEqDiff, Nat.reduceAdd, J_add, J_sub, J_mul, J_neg, J_and, J_or, J_xor, J_shl, J_shr, J_div, J_i2b, J_i2l, J_l2i, J_lcm, J_max, J_min, J_nab, J_nao, rdA, rdF, rdL, wA_fold, wF_fold, wL_fold, wC_fold]
  refine ⟨(ls247 C_h), ?_⟩
  refine Ex.mono w (Nat.le_refl _) ?_
  rintro v1 h2 ⟨rfl, s3, w⟩
  refine ⟨rfl, ?_⟩
  have C_h2 := Lay_SH s3 C_h
  have K_h2_0 := PlanAt_SH s3 K_h_0
  have B_h2 := SeaAt_SH s3 B_h
  try simp only [aI_wAL, fI_wAL, aL_wA, aL_wF, aI_wA_ne, aI_wF_ne, fI_wA_ne, fI_wF_ne, fI_wF_nk, aL_wAL_ne, J_sameA, J_sameF, aL_same, Nat.add_left_cancel_iff, Nat.add_eq_left, Nat.left_eq_add, not_false_eq_true, Nat.reduceEqDiff, Nat.reduceAdd, J_add, J_sub, J_mul, J_neg, J_and, J_or, J_xor, J_shl, J_shr, J_div, J_i2b, J_i2l, J_l2i, J_lcm, J_max, J_min, J_nab, J_nao, rdA, rdF, rdL, wA_fold, wF_fold, wL_fold, wC_fold]
  exact w
theorem m130 {X : Cst} {d pl mk qu ln m : Nat} {S : Int → Int} {t : Prop} {w R T0 i N k k' p e q : Int} {st0 : Int → Int → Int} {pa0 : Int → Int} {la0 : Int → Int × Int × Int} {f g : Int → Int} {h0 h : AH} {Q : Post}
    (C0 : Lay h0) (K0 : PlanAt h0 pl) (B0 : SeaAt h0 pl mk qu ln) (ap : apS pl mk qu) (hd : 2 ≤ d) (hm : m ≤ 5) (W : WF N S) (hl : (8 : Int) ^ m ≤ ln) (hi : (0 ≤ i ∧ i < T0) ∧ st0 i = f) (po : ∀ j, R ≤ j → j < T0 → pa0 j < i) (hR : R ≤ T0)
    (lb : Lbl S t m w f p e q g) (j : JS h0 mk qu ln m S t w R T0 i st0 pa0 la0 k h) (hk : w = -1 → k ≤ lab p e q) (hk' : k ≤ k' ∧ (w = -1 → lab p e q < k'))
    (kk : ∀ h', SH h h' → JS h0 mk qu ln m S t w R T0 i st0 pa0 la0 k' h' → RdS mk m w f p e q g h' → (∀ p' e' q' g', Kf m (S 0) g' → RdS mk m w f p' e' q' g' h → RdS mk m w f p' e' q' g' h') → Q none h') : Ex X PG d 130 0 [some (.ref 247), some (.int (J (enc 8 m g))), some (.int (J (enc 8 m f))), some (.int (J (lbo p e q)))] [] h Q := by
  obtain ⟨d, rfl⟩ : ∃ e, d = e + 1 := ⟨d - 1, by omega⟩
  have b := W.1
  unfold WFb at b
  obtain ⟨st, pa, la, T, F, L, O, hT, ag, nw⟩ := j
  have fi : st i = f := by rw [(ag i hi.1.1 hi.1.2).1]; exact hi.2
  have kf : Kf m (S 0) f := by rw [← fi]; exact (L.2.1 i hi.1.1 (by omega)).1
  have kg := Lbl_K W lb kf
  have kf8 := kf.up b.2.1
  have kg8 := kg.up b.2.1
  have pw := pw_32k (b := 8) (by decide) (by decide) hm
  have ef := enc_b (b := 8) (by decide) m f kf8.1
  have eg := enc_b (b := 8) (by decide) m g kg8.1
  have rg := Lbl_rw lb
  have lr := lbo_b (p := p) (d := e) (q := q) (by omega) (by omega) (by omega)
  have ln8 := B0.2.2.2.2.2
  have nz := LG_nz W hm O L
  have mr : 0 < mko (lbo p e q) (enc 8 m f) ∧ mko (lbo p e q) (enc 8 m f) < 67108864 := by unfold mko; omega
  -- what a mark of f's tells
  have tell : ∀ y, 0 ≤ y → y < T → ∀ p' e' q', (0 ≤ p' ∧ p' < 8) → (0 ≤ e' ∧ e' < 16) → (-1 ≤ q' ∧ q' < 7) → aI h mk (enc 8 m (st y)) = mko (lbo p' e' q') (enc 8 m f) → w = -1 → lab p' e' q' < k := by
    intro y y0 y1 p' e' q' h1 h2 h3 e1 ew
    have l' := lbo_b h1 h2 h3
    by_cases c : y < R
    · rw [L.2.2.1 y y0 c] at e1
      unfold mko at e1
      omega
    · have py := (O.2.2.1 y (by omega) y1).1
      have kp := (L.2.1 (pa y) py.1 (by omega)).1
      have ep := enc_b (b := 8) (by decide) m _ (kp.up b.2.1).1
      rw [L.2.2.2.1 y (by omega) y1] at e1
      have ij := mko_inj e1 (by omega) (by omega)
      have sf : st (pa y) = f := enc_inj (b := 8) (by decide) (kp.up b.2.1) kf8 ij.2
      have pi : pa y = i := O.2.1 _ _ py.1 (by omega) hi.1.1 (by omega) (by rw [sf, fi])
      have yT : T0 ≤ y := by
        apply Classical.byContradiction
        intro z
        have := po y (by omega) (by omega)
        rw [← (ag y y0 (by omega)).2.1] at this
        omega
      have nn := (nw y yT y1).2 ew
      have lq := (LG_la W hm O (i := y) (by omega) y1).1
      have := lbo_inj ij.1 lq.1 lq.2.1 h1 h2
      unfold lab3 at nn
      rw [this.1, this.2.1, this.2.2] at nn
      exact nn
  refine r130_0 (Lay_SH F.1 C0) (PlanAt_SH F.1 K0) (B0.fr F) ap ?_
  rw [mko_e lr (by omega)]
  refine m119 (Lay_SH F.1 C0) (PlanAt_SH F.1 K0) (B0.fr F) ap (by omega) (by omega) L.1 L.2.2.2.2.2 (fun c => ⟨rfl, SH.rf, ?_⟩) (fun c t0 t1 => ?_)
  · obtain ⟨y, hy, ey⟩ := L.2.2.2.2.1 _ eg.1 (by omega) c
    refine kk h SH.rf ⟨st, pa, la, T, F, L, O, hT, ag, fun j j0 j1 => ⟨(nw j j0 j1).1, fun ew => by have := (nw j j0 j1).2 ew; omega⟩⟩ ⟨c, fun ew p' e' q' h1 h2 h3 e1 => ?_⟩ (fun _ _ _ _ _ r => r)
    rw [ey] at e1
    have := tell y hy.1 hy.2 p' e' q' h1 h2 h3 e1 ew
    have := hk ew
    omega
  · generalize eh : wF (wA (wA h mk (enc 8 m g) (mko (lbo p e q) (enc 8 m f))) qu T (enc 8 m g)) 247 6 (T + 1) = h'
    have A := LG_add (v := mko (lbo p e q) (enc 8 m f)) ap L b.2.1 kg hl (by omega) O.1 c (by omega) t1 nz eh
    obtain ⟨A1, A2, A3, A4, A5, A6, A7, A8⟩ := A
    refine ⟨rfl, A1.1, kk _ A1.1 (JS_add (k := k) (pl := pl) hm W hl (by omega) hi.1 po lb kg fi F L O hT ag nw hk hk' A1 A2 A3 A4 A5 A6 A7 A8) ?_ (fun p' e' q' g' kg' r => ?_)⟩
    · refine ⟨by rw [A3]; omega, fun ew p' e' q' h1 h2 h3 e1 => ?_⟩
      rw [A3] at e1
      have ij := mko_inj e1 (by omega) (by omega)
      have := lbo_inj ij.1 (by omega) (by omega) h1 h2
      rw [this.1, this.2.1, this.2.2]
      exact Int.le_refl _
    · have eg' := enc_b (b := 8) (by decide) m g' (kg'.up b.2.1).1
      have nee : ¬ enc 8 m g' = enc 8 m g := fun z => by
        have := r.1
        rw [z] at this
        exact this c
      unfold RdS
      rw [A4 _ eg'.1 (by omega) nee]
      exact r
