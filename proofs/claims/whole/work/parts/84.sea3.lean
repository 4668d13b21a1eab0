/-! THE CLASS: a search goes on from a head. -/
/-- the search stands at the head i -/
def SeaI (h : AH) (pl mk qu ln m : Nat) (S : Int → Int) (t : Prop) (w : Int) (st : Int → Int → Int) (pa : Int → Int) (la : Int → Int × Int × Int) (R T i : Int) : Prop :=
  Bass h pl S t m w ∧ LG h mk qu ln m (S 0) st pa la R T ∧ LogOK S t m w st pa la R T ∧ LogPr S t m w st pa la R T i ∧ (∀ j, R ≤ j → j < T → pa j < i)
theorem Bass.fr {T : Nat → Nat → Prop} {h h' : AH} {pl m : Nat} {S : Int → Int} {t : Prop} {w : Int} (B : Bass h pl S t m w) (F : Fr T h h') (n : ∀ c k, T c k → (c < pl ∨ pl + 10 < c) ∧ ¬ (c = 247 ∧ (k = 1 ∨ k = 2 ∨ k = 3))) : Bass h' pl S t m w := by
  refine ⟨B.1.fr F (fun c k z => (n c k z).1), ?_, ?_, ?_⟩
  · rw [F.f 247 1 (fun z => (n _ _ z).2 (by omega))]; exact B.2.1
  · rw [F.f 247 2 (fun z => (n _ _ z).2 (by omega))]; exact B.2.2.1
  · rw [F.f 247 3 (fun z => (n _ _ z).2 (by omega))]; exact B.2.2.2
theorem TSe_n {pl mk qu : Nat} (ap : apS pl mk qu) (hp : pl = 4 ∨ pl = 53 ∨ 281 ≤ pl) {c k : Nat} (z : TSe mk qu c k) : (c < pl ∨ pl + 10 < c) ∧ ¬ (c = 247 ∧ (k = 1 ∨ k = 2 ∨ k = 3)) := by
  unfold TSe at z
  obtain ⟨a1, a2, a3, a4, a5⟩ := ap
  omega
theorem m121i {X : Cst} {d pl mk qu ln m : Nat} {S : Int → Int} {t : Prop} {w R T i N : Int} {st : Int → Int → Int} {pa : Int → Int} {la : Int → Int × Int × Int} {h : AH} {Q : Post}
    (C : Lay h) (K : PlanAt h pl) (B : SeaAt h pl mk qu ln) (ap : apS pl mk qu) (hp : pl = 4 ∨ pl = 53 ∨ 281 ≤ pl) (hd : 5 ≤ d) (hm : m ≤ 5) (W : WF N S) (hl : (8 : Int) ^ m ≤ ln) (hw : ¬ w = -1 → (0 ≤ w ∧ w < S 1) ∧ opn S t w) (I : SeaI h pl mk qu ln m S t w st pa la R T i) (hi : 0 ≤ i ∧ i < T)
    (k : ∀ h' st' pa' la' T', Fr (TSe mk qu) h h' → SeaI h' pl mk qu ln m S t w st' pa' la' R T' (i + 1) → T ≤ T' → (∀ j, 0 ≤ j → j < T → st' j = st j ∧ pa' j = pa j ∧ la' j = la j) → Q none h') : Ex X PG d 121 0 [some (.ref 247), some (.int (J (enc 8 m (st i)))), none, none, none] [] h Q := by
  obtain ⟨BS, L, O, P, po⟩ := I
  have b := W.1
  unfold WFb at b
  have kf := (L.2.1 i hi.1 hi.2).1
  have ln8 := B.2.2.2.2.2
  refine m121s (J' := JS h mk qu ln m S t w R T i st pa la) (Rd := fun p e q g h => Kf m (S 0) g → RdS mk m w (st i) p e q g h) (k0 := -1000) (w := w) (t := t) C K B ap (by omega) hm W kf ?_ ?_ ?_ ?_ (by decide) ?_ ?_
  · rintro k' h' ⟨st', pa', la', T', F, _⟩
    exact ⟨F.1, BS.fr F (fun c k z => TSe_n ap hp z)⟩
  · rintro k1 k2 h' l ⟨st', pa', la', T', F, L', O', hT, ag, nw⟩
    exact ⟨st', pa', la', T', F, L', O', hT, ag, fun j j0 j1 => ⟨(nw j j0 j1).1, fun ew => by have := (nw j j0 j1).2 ew; omega⟩⟩
  · intro p e q g hl' d' hd' k1 h1 Q1 hk j kk
    exact m130 C K B ap hd' hm W hl ⟨hi, rfl⟩ po O.1.2 (Lbl_w hl') j (fun _ => hk) ⟨by omega, fun _ => by omega⟩ (fun h2 s2 j2 r2 o2 => kk h2 s2 j2 (fun _ => r2) (fun p' e' q' g' r kg => o2 p' e' q' g' kg (r kg)))
  · intro nw
    have hw' := hw nw
    refine ⟨hw'.1, hw'.2, fun q hq fq d' hd' h1 Q1 j kk => ?_⟩
    exact m130 C K B ap hd' hm W hl ⟨hi, rfl⟩ po O.1.2 ⟨hw'.1, hw'.2, hq, Or.inr ⟨rfl, rfl, fq, rfl⟩⟩ j (fun z => absurd z nw) ⟨Int.le_refl _, fun z => absurd z nw⟩ (fun h2 s2 j2 r2 o2 => kk h2 s2 j2 (fun _ => r2) (fun p' e' q' g' r kg => o2 p' e' q' g' kg (r kg)))
  · exact ⟨st, pa, la, T, Fr.rf, L, O, Int.le_refl _, fun j j0 j1 => ⟨rfl, rfl, rfl⟩, fun j j0 j1 => by omega⟩
  · rintro h' s' ⟨st', pa', la', T', F, L', O', hT, ag, nw⟩ rd
    refine k h' st' pa' la' T' F ⟨BS.fr F (fun c k z => TSe_n ap hp z), L', O', fun x x0 x1 p e q g lb => ?_, fun j j0 j1 => ?_⟩ hT ag
    · by_cases c : x = i
      · subst c
        rw [(ag x hi.1 hi.2).1] at lb
        have kg := Lbl_K W lb kf
        have kg8 := kg.up b.2.1
        have eg := enc_b (b := 8) (by decide) m g kg8.1
        have r := rd p e q g lb kg
        obtain ⟨j, hj, ej⟩ := L'.2.2.2.2.1 _ eg.1 (by omega) r.1
        have kj := (L'.2.1 j hj.1 hj.2).1
        have sg : st' j = g := enc_inj (b := 8) (by decide) (kj.up b.2.1) kg8 ej.symm
        refine ⟨j, hj, sg, ?_⟩
        by_cases c1 : j < R
        · exact Or.inl c1
        · right
          by_cases c2 : j < T
          · left
            rw [(ag j hj.1 c2).2.1]
            exact po j (by omega) c2
          · right
            have nj := nw j (by omega) hj.2
            refine ⟨nj.1, fun ew => ?_⟩
            have lq := (LG_la W hm O' (i := j) (by omega) hj.2).1
            refine r.2 ew _ _ _ lq.1 lq.2.1 lq.2.2 ?_
            rw [ej, L'.2.2.2.1 j (by omega) hj.2, nj.1, (ag x hi.1 hi.2).1]
            rfl
      · rw [(ag x x0 (by omega)).1] at lb
        obtain ⟨j, hj, sj, cs⟩ := P x x0 (by omega) p e q g lb
        have aj := ag j hj.1 hj.2
        refine ⟨j, by omega, by rw [aj.1]; exact sj, ?_⟩
        rw [aj.2.1, aj.2.2]
        exact cs
    · by_cases c2 : j < T
      · have := po j j0 c2
        rw [(ag j (by have := O.1; omega) c2).2.1]
        omega
      · have := (nw j (by omega) j1).1
        omega
-- OutwardDoors$Search.plant(I)V at 0
set_option maxRecDepth 20000 in
set_option maxHeartbeats 4000000 in
theorem r118_0 {X : Cst} {d : Nat} {x1 : Int} {pl : Nat} {h : AH} {Q : Post} (C_h : Lay h) (K_h_0 : PlanAt h pl) {mk qu ln : Nat} (B_h : SeaAt h pl mk qu ln) (ap : (mk = 248 ∨ 281 ≤ mk) ∧ (qu = 249 ∨ 281 ≤ qu) ∧ ¬ mk = qu ∧ (mk < pl ∨ pl + 10 < mk) ∧ (qu < pl ∨ pl + 10 < qu))
  (w : Ex X PG d 119 0 [some (.ref 247), some (.int (J x1)), some (.int (J 67108864))] [] h (fun v1 h2 => v1 = none ∧ SH h h2 ∧ Q none h2)) :
    Ex X PG (d + 1) 118 0 [some (.ref 247), some (.int (J x1))] [] h Q := by
  refine wpx_ok (cut := []) 5 d 118 0 _ _ _ _ ?_
  show hs h 247 = (0, 7) ∧ Ex X PG d 119 0 [some (.ref 247), some (.int (J x1)), some (.int (J 67108864))] [] h (fun v1 h2 => v1 = none ∧ Q none h2)
  try simp only [aI_wAL, fI_wAL, aL_wA, aL_wF, aI_wA_ne, aI_wF_ne, fI_wA_ne, fI_wF_ne, fI_wF_nk, aL_wAL_ne, J_sameA, J_sameF, aL_same, Nat.add_left_cancel_iff, Nat.add_eq_left, Nat.left_eq_add, not_false_eq_true, Nat.reduceEqDiff, Nat.reduceAdd, J_add, J_sub, J_mul, J_neg, J_and, J_or, J_xor, J_shl, J_shr, J_div, J_i2b, J_i2l, J_l2i, J_lcm, J_max, J_min, J_nab, J_nao, rdA, rdF, rdL, wA_fold, wF_fold, wL_fold, wC_fold]
  refine ⟨(ls247 C_h), ?_⟩
  refine Ex.mono w (Nat.le_refl _) ?_
  rintro v1 h2 ⟨rfl, s3, w⟩
  refine ⟨rfl, ?_⟩
  have C_h2 := Lay_SH s3 C_h
  have K_h2_0 := PlanAt_SH s3 K_h_0
  have B_h2 := SeaAt_SH s3 B_h
  try simp only [aI_wAL, fI_wAL, aL_wA, aL_wF, aI_wA_ne, aI_wF_ne, fI_wA_ne, fI_wF_ne, fI_wF_nk, aL_wAL_ne, J_sameA, J_sameF, aL_same, Nat.add_left_cancel_iff, Nat.add_eq_left, Nat.left_eq_add, not_false_eq_true, Nat.reduceEqDiff, Nat.reduceAdd, J_add, J_sub, J_mul, J_neg, J_and, J_or, J_xor, J_shl, J_shr, J_div, J_i2b, J_i2l, J_l2i, J_lcm, J_max, J_min, J_nab, J_nao, rdA, rdF, rdL, wA_fold, wF_fold, wL_fold, wC_fold]
  exact w
theorem m118 {X : Cst} {d pl mk qu ln m : Nat} {S : Int → Int} {T N : Int} {st : Int → Int → Int} {pa : Int → Int} {la : Int → Int × Int × Int} {g : Int → Int} {h : AH} {Q : Post}
    (C : Lay h) (K : PlanAt h pl) (B : SeaAt h pl mk qu ln) (ap : apS pl mk qu) (hd : 2 ≤ d) (hm : m ≤ 5) (W : WF N S) (hl : (8 : Int) ^ m ≤ ln) (hT : 0 ≤ T) (L : LG h mk qu ln m (S 0) st pa la T T) (kg : Kf m (S 0) g) (nd : ∀ i, 0 ≤ i → i < T → ¬ st i = g)
    (k : ∀ h', Fr (TSe mk qu) h h' → LG h' mk qu ln m (S 0) (fun x => if x = T then g else st x) pa la (T + 1) (T + 1) → Q none h') : Ex X PG d 118 0 [some (.ref 247), some (.int (J (enc 8 m g)))] [] h Q := by
  obtain ⟨d, rfl⟩ : ∃ e, d = e + 1 := ⟨d - 1, by omega⟩
  have b := W.1
  unfold WFb at b
  have kg8 := kg.up b.2.1
  have eg := enc_b (b := 8) (by decide) m g kg8.1
  have ln8 := B.2.2.2.2.2
  have e0 : aI h mk (enc 8 m g) = 0 := by
    apply Classical.byContradiction
    intro z
    obtain ⟨y, hy, ey⟩ := L.2.2.2.2.1 _ eg.1 (by omega) z
    exact nd y hy.1 hy.2 (enc_inj (b := 8) (by decide) ((L.2.1 y hy.1 hy.2).1.up b.2.1) kg8 ey.symm)
  have nz : ∀ i, 0 ≤ i → i < T → ¬ aI h mk (enc 8 m (st i)) = 0 := fun i i0 i1 => by rw [L.2.2.1 i i0 i1]; decide
  refine r118_0 C K B ap ?_
  refine m119 C K B ap (by omega) (by omega) L.1 L.2.2.2.2.2 (fun c => absurd e0 c) (fun c t0 t1 => ?_)
  generalize eh : wF (wA (wA h mk (enc 8 m g) 67108864) qu T (enc 8 m g)) 247 6 (T + 1) = h'
  obtain ⟨A1, A2, A3, A4, A5, A6, A7, A8⟩ := LG_add (v := 67108864) ap L b.2.1 kg hl (by omega) ⟨hT, Int.le_refl _⟩ c (by decide) t1 nz eh
  refine ⟨rfl, A1.1, k h' A1 ⟨A2, fun y y0 y1 => ?_, fun y y0 y1 => ?_, fun y y0 y1 => by omega, fun x x0 x1 x2 => ?_, A7⟩⟩
  · dsimp only
    by_cases z : y = T
    · subst z; rw [if_pos rfl]; exact ⟨kg, A5⟩
    · rw [if_neg z, A6 y y0 (by omega)]; exact L.2.1 y y0 (by omega)
  · dsimp only
    by_cases z : y = T
    · subst z; rw [if_pos rfl]; exact A3
    · have ky := (L.2.1 y y0 (by omega)).1.up b.2.1
      have ey := enc_b (b := 8) (by decide) m _ ky.1
      rw [if_neg z, A4 _ ey.1 (by omega) (fun z' => A8 y y0 (by omega) (enc_inj (b := 8) (by decide) ky kg8 z'))]
      exact L.2.2.1 y y0 (by omega)
  · by_cases z : x = enc 8 m g
    · exact ⟨T, by omega, by dsimp only; rw [if_pos rfl]; exact z⟩
    · rw [A4 x x0 x1 z] at x2
      obtain ⟨y, hy, ey⟩ := L.2.2.2.2.1 x x0 x1 x2
      exact ⟨y, by omega, by dsimp only; rw [if_neg (by omega)]; exact ey⟩
def TSr (mk qu c k : Nat) : Prop := TSe mk qu c k ∨ (c = 247 ∧ k = 7)
-- OutwardDoors$Search.run(II)V at 0
set_option maxRecDepth 20000 in
set_option maxHeartbeats 4000000 in
theorem r120_0 {X : Cst} {d : Nat} {x1 : Int} {x2 : Int} {pl : Nat} {h : AH} {Q : Post} (C_h : Lay h) (K_h_0 : PlanAt h pl) {mk qu ln : Nat} (B_h : SeaAt h pl mk qu ln) (ap : (mk = 248 ∨ 281 ≤ mk) ∧ (qu = 249 ∨ 281 ≤ qu) ∧ ¬ mk = qu ∧ (mk < pl ∨ pl + 10 < mk) ∧ (qu < pl ∨ pl + 10 < qu))
  (w : Ex X PG (d + 1) 120 2 [some (.ref 247), some (.int (J x1)), some (.int (J x2)), some (.int (J 0))] [] h Q) :
    Ex X PG (d + 1) 120 0 [some (.ref 247), some (.int (J x1)), some (.int (J x2)), none] [] h Q := by
  refine wpx_ok (cut := [2]) 2 d 120 0 _ _ _ _ ?_
  show Ex X PG (d + 1) 120 2 [some (.ref 247), some (.int (J x1)), some (.int (J x2)), some (.int (J 0))] [] h Q
  try simp only [aI_wAL, fI_wAL, aL_wA, aL_wF, aI_wA_ne, aI_wF_ne, fI_wA_ne, fI_wF_ne, fI_wF_nk, aL_wAL_ne, J_sameA, J_sameF, aL_same, Nat.add_left_cancel_iff, Nat.add_eq_left, Nat.left_eq_add, not_false_eq_true, Nat.reduceEqDiff, Nat.reduceAdd, J_add, J_sub, J_mul, J_neg, J_and, J_or, J_xor, J_shl, J_shr, J_div, J_i2b, J_i2l, J_l2i, J_lcm, J_max, J_min, J_nab, J_nao, rdA, rdF, rdL, wA_fold, wF_fold, wL_fold, wC_fold]
  exact w
-- OutwardDoors$Search.run(II)V at 2
set_option maxRecDepth 20000 in
set_option maxHeartbeats 4000000 in
theorem r120_2 {X : Cst} {d : Nat} {x1 : Int} {x2 : Int} {x3 : Int} {pl : Nat} {h : AH} {Q : Post} (C_h : Lay h) (K_h_0 : PlanAt h pl) {mk qu ln : Nat} (B_h : SeaAt h pl mk qu ln) (ap : (mk = 248 ∨ 281 ≤ mk) ∧ (qu = 249 ∨ 281 ≤ qu) ∧ ¬ mk = qu ∧ (mk < pl ∨ pl + 10 < mk) ∧ (qu < pl ∨ pl + 10 < qu))
  (w : (-2147483648 ≤ x3 ∧ x3 < 2147483648) ∧ ((fI h 247 6 ≤ x3 → Q none h) ∧ (¬ fI h 247 6 ≤ x3 → (-2147483648 ≤ (ln : Int) ∧ (ln : Int) < 2147483648) ∧ (((ln : Int) ≤ x3 → Q none h) ∧ (¬ (ln : Int) ≤ x3 → (0 ≤ x3 ∧ x3 < ln) ∧ (-2147483648 ≤ x2 ∧ x2 < 2147483648) ∧ ((¬ iand (aI h qu x3) x1 = x2 → Ex X PG d 121 0 [some (.ref 247), some (.int (J (aI h qu x3))), none, none, none] [] h (fun v14 h15 => v14 = none ∧ SH h h15 ∧ Ex X PG (d + 1) 120 2 [some (.ref 247), some (.int (J x1)), some (.int (J x2)), some (.int (J (x3 + 1)))] [] h15 Q)) ∧ (iand (aI h qu x3) x1 = x2 → Q none (wF h 247 7 (aI h qu x3))))))))) :
    Ex X PG (d + 1) 120 2 [some (.ref 247), some (.int (J x1)), some (.int (J x2)), some (.int (J x3))] [] h Q := by
  refine wpx_ok (cut := [2]) 25 d 120 2 _ _ _ _ ?_
  show hs h 247 = (0, 7) ∧ (((hF h 247 6) ≤ (J x3) → Q none h) ∧ (¬ ((hF h 247 6) ≤ (J x3)) → hs h 247 = (0, 7) ∧ ∃ q4, hR h 247 5 = some q4 ∧ 1 ≤ (hs h q4).1 ∧ (((nI (hs h q4).2) ≤ (J x3) → Q none h) ∧ (¬ ((nI (hs h q4).2) ≤ (J x3)) → hs h 247 = (0, 7) ∧ ∃ q8, hR h 247 5 = some q8 ∧ (hs h q8).1 = 1 ∧ ix (J x3) (hs h q8).2 ∧ ((¬ ((hI h q8 (Int32.toNatClampNeg (J x3))) &&& (J x1)) = (J x2) → hs h 247 = (0, 7) ∧ ∃ q13, hR h 247 5 = some q13 ∧ (hs h q13).1 = 1 ∧ ix (J x3) (hs h q13).2 ∧ hs h 247 = (0, 7) ∧ Ex X PG d 121 0 [some (.ref 247), some (.int (hI h q13 (Int32.toNatClampNeg (J x3)))), none, none, none] [] h (fun v14 h15 => v14 = none ∧ Ex X PG (d + 1) 120 2 [some (.ref 247), some (.int (J x1)), some (.int (J x2)), some (.int ((J x3) + (J 1)))] [] h15 Q)) ∧ (¬ (¬ ((hI h q8 (Int32.toNatClampNeg (J x3))) &&& (J x1)) = (J x2)) → hs h 247 = (0, 7) ∧ ∃ q17, hR h 247 5 = some q17 ∧ (hs h q17).1 = 1 ∧ ix (J x3) (hs h q17).2 ∧ hs h 247 = (0, 7) ∧ Q none (wG h 247 7 (hI h q17 (Int32.toNatClampNeg (J x3))))))))))
  try simp only [aI_wAL, fI_wAL, aL_wA, aL_wF, aI_wA_ne, aI_wF_ne, fI_wA_ne, fI_wF_ne, fI_wF_nk, aL_wAL_ne, J_sameA, J_sameF, aL_same, Nat.add_left_cancel_iff, Nat.add_eq_left, Nat.left_eq_add, not_false_eq_true, Nat.reduceEqDiff, Nat.reduceAdd, J_add, J_sub, J_mul, J_neg, J_and, J_or, J_xor, J_shl, J_shr, J_div, J_i2b, J_i2l, J_l2i, J_lcm, J_max, J_min, J_nab, J_nao, rdA, rdF, rdL, wA_fold, wF_fold, wL_fold, wC_fold]
  refine ⟨(ls247 C_h), ?_⟩
  obtain ⟨k3, w⟩ := w
  refine ⟨fun c1 => ?_, fun c1 => ?_⟩
  · have t2 : fI h 247 6 ≤ x3 := ((Jle (rg_toInt _) k3).mp c1)
    replace w := w.1 t2
    exact w
  · have t2 : ¬ fI h 247 6 ≤ x3 := (fun e => c1 ((Jle (rg_toInt _) k3).mpr e))
    replace w := w.2 t2
    refine ⟨(ls247 C_h), _, B_h.2.2.1, ?_⟩
    try simp only [aI_wAL, fI_wAL, aL_wA, aL_wF, aI_wA_ne, aI_wF_ne, fI_wA_ne, fI_wF_ne, fI_wF_nk, aL_wAL_ne, J_sameA, J_sameF, aL_same, Nat.add_left_cancel_iff, Nat.add_eq_left, Nat.left_eq_add, not_false_eq_true, Nat.reduceEqDiff, Nat.reduceAdd, J_add, J_sub, J_mul, J_neg, J_and, J_or, J_xor, J_shl, J_shr, J_div, J_i2b, J_i2l, J_l2i, J_lcm, J_max, J_min, J_nab, J_nao, rdA, rdF, rdL, wA_fold, wF_fold, wL_fold, wC_fold]
    refine ⟨by rw [B_h.2.2.2.2.1]; show 1 ≤ 1; decide, ?_⟩
    rw [show nI (hs h qu).2 = J (ln : Int) from by rw [B_h.2.2.2.2.1]; exact J_nI _]
    try simp only [aI_wAL, fI_wAL, aL_wA, aL_wF, aI_wA_ne, aI_wF_ne, fI_wA_ne, fI_wF_ne, fI_wF_nk, aL_wAL_ne, J_sameA, J_sameF, aL_same, Nat.add_left_cancel_iff, Nat.add_eq_left, Nat.left_eq_add, not_false_eq_true, Nat.reduceEqDiff, Nat.reduceAdd, J_add, J_sub, J_mul, J_neg, J_and, J_or, J_xor, J_shl, J_shr, J_div, J_i2b, J_i2l, J_l2i, J_lcm, J_max, J_min, J_nab, J_nao, rdA, rdF, rdL, wA_fold, wF_fold, wL_fold, wC_fold]
    obtain ⟨k7, w⟩ := w
    refine ⟨fun c5 => ?_, fun c5 => ?_⟩
    · have t6 : (ln : Int) ≤ x3 := ((Jle k7 k3).mp c5)
      replace w := w.1 t6
      exact w
    · have t6 : ¬ (ln : Int) ≤ x3 := (fun e => c5 ((Jle k7 k3).mpr e))
      replace w := w.2 t6
      refine ⟨(ls247 C_h), _, B_h.2.2.1, ?_⟩
      try simp only [aI_wAL, fI_wAL, aL_wA, aL_wF, aI_wA_ne, aI_wF_ne, fI_wA_ne, fI_wF_ne, fI_wF_nk, aL_wAL_ne, J_sameA, J_sameF, aL_same, Nat.add_left_cancel_iff, Nat.add_eq_left, Nat.left_eq_add, not_false_eq_true, Nat.reduceEqDiff, Nat.reduceAdd, J_add, J_sub, J_mul, J_neg, J_and, J_or, J_xor, J_shl, J_shr, J_div, J_i2b, J_i2l, J_l2i, J_lcm, J_max, J_min, J_nab, J_nao, rdA, rdF, rdL, wA_fold, wF_fold, wL_fold, wC_fold]
      obtain ⟨k9, w⟩ := w
      refine ⟨congrArg Prod.fst B_h.2.2.2.2.1, ixs B_h.2.2.2.2.1 k9 (Nat.le_trans B_h.2.2.2.2.2 (by decide)), ?_⟩
      obtain ⟨k12, w⟩ := w
      refine ⟨fun c10 => ?_, fun c10 => ?_⟩
      · have t11 : ¬ iand (aI h qu x3) x1 = x2 := (fun e => c10 ((Jeq (rg_toInt _) k12).mpr e))
        replace w := w.1 t11
        refine ⟨(ls247 C_h), _, B_h.2.2.1, ?_⟩
        try simp only [aI_wAL, fI_wAL, aL_wA, aL_wF, aI_wA_ne, aI_wF_ne, fI_wA_ne, fI_wF_ne, fI_wF_nk, aL_wAL_ne, J_sameA, J_sameF, aL_same, Nat.add_left_cancel_iff, Nat.add_eq_left, Nat.left_eq_add, not_false_eq_true, Nat.reduceEqDiff, Nat.reduceAdd, J_add, J_sub, J_mul, J_neg, J_and, J_or, J_xor, J_shl, J_shr, J_div, J_i2b, J_i2l, J_l2i, J_lcm, J_max, J_min, J_nab, J_nao, rdA, rdF, rdL, wA_fold, wF_fold, wL_fold, wC_fold]
        refine ⟨congrArg Prod.fst B_h.2.2.2.2.1, ixs B_h.2.2.2.2.1 k9 (Nat.le_trans B_h.2.2.2.2.2 (by decide)), ?_⟩
        refine ⟨(ls247 C_h), ?_⟩
        refine Ex.mono w (Nat.le_refl _) ?_
        rintro v14 h15 ⟨rfl, s16, w⟩
        refine ⟨rfl, ?_⟩
        have C_h15 := Lay_SH s16 C_h
        have K_h15_0 := PlanAt_SH s16 K_h_0
        have B_h15 := SeaAt_SH s16 B_h
        try simp only [aI_wAL, fI_wAL, aL_wA, aL_wF, aI_wA_ne, aI_wF_ne, fI_wA_ne, fI_wF_ne, fI_wF_nk, aL_wAL_ne, J_sameA, J_sameF, aL_same, Nat.add_left_cancel_iff, Nat.add_eq_left, Nat.left_eq_add, not_false_eq_true, Nat.reduceEqDiff, Nat.reduceAdd, J_add, J_sub, J_mul, J_neg, J_and, J_or, J_xor, J_shl, J_shr, J_div, J_i2b, J_i2l, J_l2i, J_lcm, J_max, J_min, J_nab, J_nao, rdA, rdF, rdL, wA_fold, wF_fold, wL_fold, wC_fold]
        exact w
      · have t11 : iand (aI h qu x3) x1 = x2 := ((Jeq (rg_toInt _) k12).mp (Classical.byContradiction c10))
        replace w := w.2 t11
        refine ⟨(ls247 C_h), _, B_h.2.2.1, ?_⟩
        try simp only [aI_wAL, fI_wAL, aL_wA, aL_wF, aI_wA_ne, aI_wF_ne, fI_wA_ne, fI_wF_ne, fI_wF_nk, aL_wAL_ne, J_sameA, J_sameF, aL_same, Nat.add_left_cancel_iff, Nat.add_eq_left, Nat.left_eq_add, not_false_eq_true, Nat.reduceEqDiff, Nat.reduceAdd, J_add, J_sub, J_mul, J_neg, J_and, J_or, J_xor, J_shl, J_shr, J_div, J_i2b, J_i2l, J_l2i, J_lcm, J_max, J_min, J_nab, J_nao, rdA, rdF, rdL, wA_fold, wF_fold, wL_fold, wC_fold]
        refine ⟨congrArg Prod.fst B_h.2.2.2.2.1, ixs B_h.2.2.2.2.1 k9 (Nat.le_trans B_h.2.2.2.2.2 (by decide)), ?_⟩
        refine ⟨(ls247 C_h), ?_⟩
        exact w
theorem SeaI.T_le {h : AH} {pl mk qu ln m : Nat} {S : Int → Int} {t : Prop} {w R T i : Int} {st : Int → Int → Int} {pa : Int → Int} {la : Int → Int × Int × Int} (I : SeaI h pl mk qu ln m S t w st pa la R T i) : 0 ≤ T ∧ T ≤ ln := by
  have := cnt_b (fun x => ¬ aI h mk x = 0) (i := (ln : Int)) (by omega)
  have := I.2.1.2.2.2.2.2
  omega
theorem m120 {X : Cst} {d pl mk qu ln m : Nat} {S : Int → Int} {t : Prop} {w R N mask want : Int} {st : Int → Int → Int} {pa : Int → Int} {la : Int → Int × Int × Int} {G : (Int → Int) → Prop} {h : AH} {Q : Post}
    (C : Lay h) (K : PlanAt h pl) (B : SeaAt h pl mk qu ln) (ap : apS pl mk qu) (hp : pl = 4 ∨ pl = 53 ∨ 281 ≤ pl) (hd : 6 ≤ d) (hm : m ≤ 5) (W : WF N S) (hl : (8 : Int) ^ m ≤ ln) (hw : ¬ w = -1 → (0 ≤ w ∧ w < S 1) ∧ opn S t w) (I : SeaI h pl mk qu ln m S t w st pa la R R 0) (f7 : fI h 247 7 = -1) (gw : -2147483648 ≤ want ∧ want < 2147483648) (hG : ∀ f, Kf m (S 0) f → (iand (enc 8 m f) mask = want ↔ G f))
    (k1 : ∀ h' st' pa' la' T' F, Fr (TSr mk qu) h h' → SeaI h' pl mk qu ln m S t w st' pa' la' R T' F → (∀ j, 0 ≤ j → j < R → st' j = st j) → (0 ≤ F ∧ F < T') → G (st' F) → (∀ i, 0 ≤ i → i < F → ¬ G (st' i)) → fI h' 247 7 = enc 8 m (st' F) → Q none h')
    (k2 : ∀ h' st' pa' la' T', Fr (TSr mk qu) h h' → SeaI h' pl mk qu ln m S t w st' pa' la' R T' T' → (∀ j, 0 ≤ j → j < R → st' j = st j) → (∀ i, 0 ≤ i → i < T' → ¬ G (st' i)) → fI h' 247 7 = -1 → Q none h') : Ex X PG d 120 0 [some (.ref 247), some (.int (J mask)), some (.int (J want)), none] [] h Q := by
  obtain ⟨d, rfl⟩ : ∃ e, d = e + 1 := ⟨d - 1, by omega⟩
  have b := W.1
  unfold WFb at b
  have ln8 := B.2.2.2.2.2
  have lp : ∀ (z : Nat) (i T : Int) (st' : Int → Int → Int) (pa' : Int → Int) (la' : Int → Int × Int × Int) (h' : AH), ln - i = z → 0 ≤ i → i ≤ T → Fr (TSe mk qu) h h' → SeaI h' pl mk qu ln m S t w st' pa' la' R T i → (∀ j, 0 ≤ j → j < R → st' j = st j) → R ≤ T → (∀ j, 0 ≤ j → j < i → ¬ G (st' j)) → Ex X PG (d + 1) 120 2 [some (.ref 247), some (.int (J mask)), some (.int (J want)), some (.int (J i))] [] h' Q := by
    intro z
    induction z with
    | zero =>
      intro i T st' pa' la' h' e i0 iT F I' ag rT nG
      have tl := I'.T_le
      have g7 : fI h' 247 7 = -1 := by rw [F.f 247 7 (fun z => by unfold TSe at z; have := ap.1; have := ap.2.1; omega)]; exact f7
      refine r120_2 (Lay_SH F.1 C) (PlanAt_SH F.1 K) (B.fr F) ap ?_
      rw [I'.2.1.1]
      refine ⟨by omega, fun c => ?_, fun c => absurd (by omega) c⟩
      have ei : i = T := by omega
      subst ei
      exact k2 h' st' pa' la' i (F.mo fun c k z => Or.inl z) I' ag nG g7
    | succ z ih =>
      intro i T st' pa' la' h' e i0 iT F I' ag rT nG
      have tl := I'.T_le
      have g7 : fI h' 247 7 = -1 := by rw [F.f 247 7 (fun z => by unfold TSe at z; have := ap.1; have := ap.2.1; omega)]; exact f7
      refine r120_2 (Lay_SH F.1 C) (PlanAt_SH F.1 K) (B.fr F) ap ?_
      rw [I'.2.1.1]
      refine ⟨by omega, fun c => ?_, fun c => ⟨by omega, fun c2 => absurd c2 (by omega), fun _ => ⟨by omega, gw, ?_⟩⟩⟩
      · have ei : i = T := by omega
        subst ei
        exact k2 h' st' pa' la' i (F.mo fun c k z => Or.inl z) I' ag nG g7
      · have si := I'.2.1.2.1 i i0 (by omega)
        rw [si.2]
        have kf8 := si.1.up b.2.1
        have ee := enc_b (b := 8) (by decide) m _ kf8.1
        refine ⟨fun c3 => ?_, fun c3 => ?_⟩
        · refine m121i (Lay_SH F.1 C) (PlanAt_SH F.1 K) (B.fr F) ap hp (by omega) hm W hl hw I' ⟨i0, by omega⟩ (fun h2 st2 pa2 la2 T2 F2 I2 t2 ag2 => ⟨rfl, F2.1, ?_⟩)
          refine ih (i + 1) T2 st2 pa2 la2 h2 (by omega) (by omega) (by omega) (F.tr F2) I2 (fun j j0 j1 => ?_) (by omega) (fun j j0 j1 => ?_)
          · rw [(ag2 j j0 (by omega)).1]; exact ag j j0 j1
          · rw [(ag2 j j0 (by omega)).1]
            by_cases cj : j = i
            · subst cj; exact fun z => c3 ((hG _ si.1).mpr z)
            · exact nG j j0 (by omega)
        · have F7 : Fr (TSr mk qu) h (wF h' 247 7 (enc 8 m (st' i))) := (F.mo fun c k z => Or.inl z : Fr (TSr mk qu) h h').wF (Or.inr ⟨rfl, rfl⟩)
          have F8 : Fr (fun c k => c = 247 ∧ k = 7) h' (wF h' 247 7 (enc 8 m (st' i))) := (Fr.rf (T := fun c k => c = 247 ∧ k = 7)).wF ⟨rfl, rfl⟩
          refine k1 _ st' pa' la' T i F7 ⟨I'.1.fr F8 (fun c k z => by omega), ⟨?_, ?_, ?_, ?_, ?_, ?_⟩, I'.2.2⟩ ag ⟨i0, by omega⟩ ((hG _ si.1).mp c3) nG (fI_wF_eq (by have := pw_32k (b := 8) (by decide) (by decide) hm; omega))
          · rw [fI_wF_nk (by decide)]; exact I'.2.1.1
          · rw [aI_wF_ne (by have := ap.2.1; omega)]; exact I'.2.1.2.1
          · rw [aI_wF_ne (by have := ap.1; omega)]; exact I'.2.1.2.2.1
          · rw [aI_wF_ne (by have := ap.1; omega)]; exact I'.2.1.2.2.2.1
          · rw [aI_wF_ne (by have := ap.1; omega)]; exact I'.2.1.2.2.2.2.1
          · rw [aI_wF_ne (by have := ap.1; omega)]; exact I'.2.1.2.2.2.2.2
  refine r120_0 C K B ap ?_
  have oR := I.2.2.1.1
  exact lp ln 0 R st pa la h (by omega) (by omega) oR.1 Fr.rf I (fun j _ _ => rfl) (Int.le_refl _) (fun j j0 j1 => by omega)
-- OutwardDoors$Search.exhaust()V at 0
set_option maxRecDepth 20000 in
set_option maxHeartbeats 4000000 in
theorem r139_0 {X : Cst} {d : Nat} {pl : Nat} {h : AH} {Q : Post} (C_h : Lay h) (K_h_0 : PlanAt h pl) {mk qu ln : Nat} (B_h : SeaAt h pl mk qu ln) (ap : (mk = 248 ∨ 281 ≤ mk) ∧ (qu = 249 ∨ 281 ≤ qu) ∧ ¬ mk = qu ∧ (mk < pl ∨ pl + 10 < mk) ∧ (qu < pl ∨ pl + 10 < qu))
  (w : Ex X PG (d + 1) 139 2 [some (.ref 247), some (.int (J 0))] [] h Q) :
    Ex X PG (d + 1) 139 0 [some (.ref 247), none] [] h Q := by
  refine wpx_ok (cut := [2]) 2 d 139 0 _ _ _ _ ?_
  show Ex X PG (d + 1) 139 2 [some (.ref 247), some (.int (J 0))] [] h Q
  try simp only [aI_wAL, fI_wAL, aL_wA, aL_wF, aI_wA_ne, aI_wF_ne, fI_wA_ne, fI_wF_ne, fI_wF_nk, aL_wAL_ne, J_sameA, J_sameF, aL_same, Nat.add_left_cancel_iff, Nat.add_eq_left, Nat.left_eq_add, not_false_eq_true, Nat.reduceEqDiff, Nat.reduceAdd, J_add, J_sub, J_mul, J_neg, J_and, J_or, J_xor, J_shl, J_shr, J_div, J_i2b, J_i2l, J_l2i, J_lcm, J_max, J_min, J_nab, J_nao, rdA, rdF, rdL, wA_fold, wF_fold, wL_fold, wC_fold]
  exact w
-- OutwardDoors$Search.exhaust()V at 2
set_option maxRecDepth 20000 in
set_option maxHeartbeats 4000000 in
theorem r139_2 {X : Cst} {d : Nat} {x1 : Int} {pl : Nat} {h : AH} {Q : Post} (C_h : Lay h) (K_h_0 : PlanAt h pl) {mk qu ln : Nat} (B_h : SeaAt h pl mk qu ln) (ap : (mk = 248 ∨ 281 ≤ mk) ∧ (qu = 249 ∨ 281 ≤ qu) ∧ ¬ mk = qu ∧ (mk < pl ∨ pl + 10 < mk) ∧ (qu < pl ∨ pl + 10 < qu))
  (w : (-2147483648 ≤ x1 ∧ x1 < 2147483648) ∧ ((fI h 247 6 ≤ x1 → Q none h) ∧ (¬ fI h 247 6 ≤ x1 → (-2147483648 ≤ (ln : Int) ∧ (ln : Int) < 2147483648) ∧ (((ln : Int) ≤ x1 → Q none h) ∧ (¬ (ln : Int) ≤ x1 → (0 ≤ x1 ∧ x1 < ln) ∧ Ex X PG d 121 0 [some (.ref 247), some (.int (J (aI h qu x1))), none, none, none] [] h (fun v10 h11 => v10 = none ∧ SH h h11 ∧ Ex X PG (d + 1) 139 2 [some (.ref 247), some (.int (J (x1 + 1)))] [] h11 Q)))))) :
    Ex X PG (d + 1) 139 2 [some (.ref 247), some (.int (J x1))] [] h Q := by
  refine wpx_ok (cut := [2]) 17 d 139 2 _ _ _ _ ?_
  show hs h 247 = (0, 7) ∧ (((hF h 247 6) ≤ (J x1) → Q none h) ∧ (¬ ((hF h 247 6) ≤ (J x1)) → hs h 247 = (0, 7) ∧ ∃ q4, hR h 247 5 = some q4 ∧ 1 ≤ (hs h q4).1 ∧ (((nI (hs h q4).2) ≤ (J x1) → Q none h) ∧ (¬ ((nI (hs h q4).2) ≤ (J x1)) → hs h 247 = (0, 7) ∧ ∃ q8, hR h 247 5 = some q8 ∧ (hs h q8).1 = 1 ∧ ix (J x1) (hs h q8).2 ∧ hs h 247 = (0, 7) ∧ Ex X PG d 121 0 [some (.ref 247), some (.int (hI h q8 (Int32.toNatClampNeg (J x1)))), none, none, none] [] h (fun v10 h11 => v10 = none ∧ Ex X PG (d + 1) 139 2 [some (.ref 247), some (.int ((J x1) + (J 1)))] [] h11 Q)))))
  try simp only [aI_wAL, fI_wAL, aL_wA, aL_wF, aI_wA_ne, aI_wF_ne, fI_wA_ne, fI_wF_ne, fI_wF_nk, aL_wAL_ne, J_sameA, J_sameF, aL_same, Nat.add_left_cancel_iff, Nat.add_eq_left, Nat.left_eq_add, not_false_eq_true, Nat.reduceEqDiff, Nat.reduceAdd, J_add, J_sub, J_mul, J_neg, J_and, J_or, J_xor, J_shl, J_shr, J_div, J_i2b, J_i2l, J_l2i, J_lcm, J_max, J_min, J_nab, J_nao, rdA, rdF, rdL, wA_fold, wF_fold, wL_fold, wC_fold]
  refine ⟨(ls247 C_h), ?_⟩
  obtain ⟨k3, w⟩ := w
  refine ⟨fun c1 => ?_, fun c1 => ?_⟩
  · have t2 : fI h 247 6 ≤ x1 := ((Jle (rg_toInt _) k3).mp c1)
    replace w := w.1 t2
    exact w
  · have t2 : ¬ fI h 247 6 ≤ x1 := (fun e => c1 ((Jle (rg_toInt _) k3).mpr e))
    replace w := w.2 t2
    refine ⟨(ls247 C_h), _, B_h.2.2.1, ?_⟩
    try simp only [aI_wAL, fI_wAL, aL_wA, aL_wF, aI_wA_ne, aI_wF_ne, fI_wA_ne, fI_wF_ne, fI_wF_nk, aL_wAL_ne, J_sameA, J_sameF, aL_same, Nat.add_left_cancel_iff, Nat.add_eq_left, Nat.left_eq_add, not_false_eq_true, Nat.reduceEqDiff, Nat.reduceAdd, J_add, J_sub, J_mul, J_neg, J_and, J_or, J_xor, J_shl, J_shr, J_div, J_i2b, J_i2l, J_l2i, J_lcm, J_max, J_min, J_nab, J_nao, rdA, rdF, rdL, wA_fold, wF_fold, wL_fold, wC_fold]
    refine ⟨by rw [B_h.2.2.2.2.1]; show 1 ≤ 1; decide, ?_⟩
    rw [show nI (hs h qu).2 = J (ln : Int) from by rw [B_h.2.2.2.2.1]; exact J_nI _]
    try simp only [aI_wAL, fI_wAL, aL_wA, aL_wF, aI_wA_ne, aI_wF_ne, fI_wA_ne, fI_wF_ne, fI_wF_nk, aL_wAL_ne, J_sameA, J_sameF, aL_same, Nat.add_left_cancel_iff, Nat.add_eq_left, Nat.left_eq_add, not_false_eq_true, Nat.reduceEqDiff, Nat.reduceAdd, J_add, J_sub, J_mul, J_neg, J_and, J_or, J_xor, J_shl, J_shr, J_div, J_i2b, J_i2l, J_l2i, J_lcm, J_max, J_min, J_nab, J_nao, rdA, rdF, rdL, wA_fold, wF_fold, wL_fold, wC_fold]
    obtain ⟨k7, w⟩ := w
    refine ⟨fun c5 => ?_, fun c5 => ?_⟩
    · have t6 : (ln : Int) ≤ x1 := ((Jle k7 k3).mp c5)
      replace w := w.1 t6
      exact w
    · have t6 : ¬ (ln : Int) ≤ x1 := (fun e => c5 ((Jle k7 k3).mpr e))
      replace w := w.2 t6
      refine ⟨(ls247 C_h), _, B_h.2.2.1, ?_⟩
      try simp only [aI_wAL, fI_wAL, aL_wA, aL_wF, aI_wA_ne, aI_wF_ne, fI_wA_ne, fI_wF_ne, fI_wF_nk, aL_wAL_ne, J_sameA, J_sameF, aL_same, Nat.add_left_cancel_iff, Nat.add_eq_left, Nat.left_eq_add, not_false_eq_true, Nat.reduceEqDiff, Nat.reduceAdd, J_add, J_sub, J_mul, J_neg, J_and, J_or, J_xor, J_shl, J_shr, J_div, J_i2b, J_i2l, J_l2i, J_lcm, J_max, J_min, J_nab, J_nao, rdA, rdF, rdL, wA_fold, wF_fold, wL_fold, wC_fold]
      obtain ⟨k9, w⟩ := w
      refine ⟨congrArg Prod.fst B_h.2.2.2.2.1, ixs B_h.2.2.2.2.1 k9 (Nat.le_trans B_h.2.2.2.2.2 (by decide)), ?_⟩
      refine ⟨(ls247 C_h), ?_⟩
      refine Ex.mono w (Nat.le_refl _) ?_
      rintro v10 h11 ⟨rfl, s12, w⟩
      refine ⟨rfl, ?_⟩
      have C_h11 := Lay_SH s12 C_h
      have K_h11_0 := PlanAt_SH s12 K_h_0
      have B_h11 := SeaAt_SH s12 B_h
      try simp only [aI_wAL, fI_wAL, aL_wA, aL_wF, aI_wA_ne, aI_wF_ne, fI_wA_ne, fI_wF_ne, fI_wF_nk, aL_wAL_ne, J_sameA, J_sameF, aL_same, Nat.add_left_cancel_iff, Nat.add_eq_left, Nat.left_eq_add, not_false_eq_true, Nat.reduceEqDiff, Nat.reduceAdd, J_add, J_sub, J_mul, J_neg, J_and, J_or, J_xor, J_shl, J_shr, J_div, J_i2b, J_i2l, J_l2i, J_lcm, J_max, J_min, J_nab, J_nao, rdA, rdF, rdL, wA_fold, wF_fold, wL_fold, wC_fold]
      exact w
theorem m139 {X : Cst} {d pl mk qu ln m : Nat} {S : Int → Int} {t : Prop} {w R N : Int} {st : Int → Int → Int} {pa : Int → Int} {la : Int → Int × Int × Int} {h : AH} {Q : Post}
    (C : Lay h) (K : PlanAt h pl) (B : SeaAt h pl mk qu ln) (ap : apS pl mk qu) (hp : pl = 4 ∨ pl = 53 ∨ 281 ≤ pl) (hd : 6 ≤ d) (hm : m ≤ 5) (W : WF N S) (hl : (8 : Int) ^ m ≤ ln) (hw : ¬ w = -1 → (0 ≤ w ∧ w < S 1) ∧ opn S t w) (I : SeaI h pl mk qu ln m S t w st pa la R R 0)
    (k : ∀ h' st' pa' la' T', Fr (TSe mk qu) h h' → SeaI h' pl mk qu ln m S t w st' pa' la' R T' T' → (∀ j, 0 ≤ j → j < R → st' j = st j) → Q none h') : Ex X PG d 139 0 [some (.ref 247), none] [] h Q := by
  obtain ⟨d, rfl⟩ : ∃ e, d = e + 1 := ⟨d - 1, by omega⟩
  have b := W.1
  unfold WFb at b
  have ln8 := B.2.2.2.2.2
  have lp : ∀ (z : Nat) (i T : Int) (st' : Int → Int → Int) (pa' : Int → Int) (la' : Int → Int × Int × Int) (h' : AH), ln - i = z → 0 ≤ i → i ≤ T → Fr (TSe mk qu) h h' → SeaI h' pl mk qu ln m S t w st' pa' la' R T i → (∀ j, 0 ≤ j → j < R → st' j = st j) → R ≤ T → Ex X PG (d + 1) 139 2 [some (.ref 247), some (.int (J i))] [] h' Q := by
    intro z
    induction z with
    | zero =>
      intro i T st' pa' la' h' e i0 iT F I' ag rT
      have tl := I'.T_le
      refine r139_2 (Lay_SH F.1 C) (PlanAt_SH F.1 K) (B.fr F) ap ?_
      rw [I'.2.1.1]
      refine ⟨by omega, fun c => ?_, fun c => absurd (by omega) c⟩
      have ei : i = T := by omega
      subst ei
      exact k h' st' pa' la' i F I' ag
    | succ z ih =>
      intro i T st' pa' la' h' e i0 iT F I' ag rT
      have tl := I'.T_le
      refine r139_2 (Lay_SH F.1 C) (PlanAt_SH F.1 K) (B.fr F) ap ?_
      rw [I'.2.1.1]
      refine ⟨by omega, fun c => ?_, fun c => ⟨by omega, fun c2 => absurd c2 (by omega), fun _ => ⟨by omega, ?_⟩⟩⟩
      · have ei : i = T := by omega
        subst ei
        exact k h' st' pa' la' i F I' ag
      · have si := I'.2.1.2.1 i i0 (by omega)
        rw [si.2]
        refine m121i (Lay_SH F.1 C) (PlanAt_SH F.1 K) (B.fr F) ap hp (by omega) hm W hl hw I' ⟨i0, by omega⟩ (fun h2 st2 pa2 la2 T2 F2 I2 t2 ag2 => ⟨rfl, F2.1, ?_⟩)
        refine ih (i + 1) T2 st2 pa2 la2 h2 (by omega) (by omega) (by omega) (F.tr F2) I2 (fun j j0 j1 => ?_) (by omega)
        rw [(ag2 j j0 (by omega)).1]; exact ag j j0 j1
  refine r139_0 C K B ap ?_
  have oR := I.2.2.1.1
  exact lp ln 0 R st pa la h (by omega) (by omega) oR.1 Fr.rf I (fun j _ _ => rfl) (Int.le_refl _)
-- OutwardDoors$Search.everReached(IIZ)Z at 0
set_option maxRecDepth 20000 in
set_option maxHeartbeats 4000000 in
theorem r140_0 {X : Cst} {d : Nat} {x1 : Int} {x2 : Int} {x3 : Int} {pl : Nat} {h : AH} {Q : Post} (C_h : Lay h) (K_h_0 : PlanAt h pl) {mk qu ln : Nat} (B_h : SeaAt h pl mk qu ln) (ap : (mk = 248 ∨ 281 ≤ mk) ∧ (qu = 249 ∨ 281 ≤ qu) ∧ ¬ mk = qu ∧ (mk < pl ∨ pl + 10 < mk) ∧ (qu < pl ∨ pl + 10 < qu))
  (w : Ex X PG (d + 1) 140 3 [some (.ref 247), some (.int (J x1)), some (.int (J x2)), some (.int (J x3)), some (.int (J 0))] [] h Q) :
    Ex X PG (d + 1) 140 0 [some (.ref 247), some (.int (J x1)), some (.int (J x2)), some (.int (J x3)), none] [] h Q := by
  refine wpx_ok (cut := [3]) 2 d 140 0 _ _ _ _ ?_
  show Ex X PG (d + 1) 140 3 [some (.ref 247), some (.int (J x1)), some (.int (J x2)), some (.int (J x3)), some (.int (J 0))] [] h Q
  try simp only [aI_wAL, fI_wAL, aL_wA, aL_wF, aI_wA_ne, aI_wF_ne, fI_wA_ne, fI_wF_ne, fI_wF_nk, aL_wAL_ne, J_sameA, J_sameF, aL_same, Nat.add_left_cancel_iff, Nat.add_eq_left, Nat.left_eq_add, not_false_eq_true, Nat.reduceEqDiff, Nat.reduceAdd, J_add, J_sub, J_mul, J_neg, J_and, J_or, J_xor, J_shl, J_shr, J_div, J_i2b, J_i2l, J_l2i, J_lcm, J_max, J_min, J_nab, J_nao, rdA, rdF, rdL, wA_fold, wF_fold, wL_fold, wC_fold]
  exact w
-- OutwardDoors$Search.everReached(IIZ)Z at 3
set_option maxRecDepth 20000 in
set_option maxHeartbeats 4000000 in
theorem r140_3 {X : Cst} {d : Nat} {x1 : Int} {x2 : Int} {x3 : Int} {x4 : Int} {pl : Nat} {h : AH} {Q : Post} (C_h : Lay h) (K_h_0 : PlanAt h pl) {mk qu ln : Nat} (B_h : SeaAt h pl mk qu ln) (ap : (mk = 248 ∨ 281 ≤ mk) ∧ (qu = 249 ∨ 281 ≤ qu) ∧ ¬ mk = qu ∧ (mk < pl ∨ pl + 10 < mk) ∧ (qu < pl ∨ pl + 10 < qu)) (hd : 1 ≤ d)
  (w : (-2147483648 ≤ x4 ∧ x4 < 2147483648) ∧ ((fI h 247 6 ≤ x4 → Q (some (.int (J 0))) h) ∧ (¬ fI h 247 6 ≤ x4 → (0 ≤ x4 ∧ x4 < ln) ∧ (0 ≤ (aI h qu x4) ∧ (aI h qu x4) < 2147483648) ∧ (0 ≤ x1 ∧ x1 < 5) ∧ (-2147483648 ≤ x2 ∧ x2 < 2147483648) ∧ ((¬ dgt 8 (aI h qu x4) x1 = x2 → (-2147483648 ≤ x3 ∧ x3 < 2147483648) ∧ ((¬ 0 = x3 → Ex X PG (d + 1) 140 3 [some (.ref 247), some (.int (J x1)), some (.int (J x2)), some (.int (J x3)), some (.int (J (x4 + 1)))] [] h Q) ∧ (0 = x3 → Q (some (.int (J 1))) h))) ∧ (dgt 8 (aI h qu x4) x1 = x2 → (-2147483648 ≤ x3 ∧ x3 < 2147483648) ∧ ((¬ 1 = x3 → Ex X PG (d + 1) 140 3 [some (.ref 247), some (.int (J x1)), some (.int (J x2)), some (.int (J x3)), some (.int (J (x4 + 1)))] [] h Q) ∧ (1 = x3 → Q (some (.int (J 1))) h))))))) :
    Ex X PG (d + 1) 140 3 [some (.ref 247), some (.int (J x1)), some (.int (J x2)), some (.int (J x3)), some (.int (J x4))] [] h Q := by
  refine wpx_ok (cut := [3]) 18 d 140 3 _ _ _ _ ?_
  show hs h 247 = (0, 7) ∧ (((hF h 247 6) ≤ (J x4) → (J 0 = J 0 ∨ J 0 = J 1) ∧ Q (some (.int (J 0))) h) ∧ (¬ ((hF h 247 6) ≤ (J x4)) → hs h 247 = (0, 7) ∧ ∃ q4, hR h 247 5 = some q4 ∧ (hs h q4).1 = 1 ∧ ix (J x4) (hs h q4).2 ∧ Ex X PG d 122 0 [some (.int (hI h q4 (Int32.toNatClampNeg (J x4)))), some (.int (J x1))] [] h (fun v6 h7 => ∃ r8, v6 = some (.int r8) ∧ ((¬ r8 = (J x2) → ((¬ (J 0) = (J x3) → Ex X PG (d + 1) 140 3 [some (.ref 247), some (.int (J x1)), some (.int (J x2)), some (.int (J x3)), some (.int ((J x4) + (J 1)))] [] h7 Q) ∧ (¬ (¬ (J 0) = (J x3)) → (J 1 = J 0 ∨ J 1 = J 1) ∧ Q (some (.int (J 1))) h7))) ∧ (¬ (¬ r8 = (J x2)) → ((¬ (J 1) = (J x3) → Ex X PG (d + 1) 140 3 [some (.ref 247), some (.int (J x1)), some (.int (J x2)), some (.int (J x3)), some (.int ((J x4) + (J 1)))] [] h7 Q) ∧ (¬ (¬ (J 1) = (J x3)) → (J 1 = J 0 ∨ J 1 = J 1) ∧ Q (some (.int (J 1))) h7)))))))
  try simp only [aI_wAL, fI_wAL, aL_wA, aL_wF, aI_wA_ne, aI_wF_ne, fI_wA_ne, fI_wF_ne, fI_wF_nk, aL_wAL_ne, J_sameA, J_sameF, aL_same, Nat.add_left_cancel_iff, Nat.add_eq_left, Nat.left_eq_add, not_false_eq_true, Nat.reduceEqDiff, Nat.reduceAdd, J_add, J_sub, J_mul, J_neg, J_and, J_or, J_xor, J_shl, J_shr, J_div, J_i2b, J_i2l, J_l2i, J_lcm, J_max, J_min, J_nab, J_nao, rdA, rdF, rdL, wA_fold, wF_fold, wL_fold, wC_fold]
  refine ⟨(ls247 C_h), ?_⟩
  obtain ⟨k3, w⟩ := w
  refine ⟨fun c1 => ?_, fun c1 => ?_⟩
  · have t2 : fI h 247 6 ≤ x4 := ((Jle (rg_toInt _) k3).mp c1)
    replace w := w.1 t2
    exact ⟨(Or.inl (by trivial)), w⟩
  · have t2 : ¬ fI h 247 6 ≤ x4 := (fun e => c1 ((Jle (rg_toInt _) k3).mpr e))
    replace w := w.2 t2
    refine ⟨(ls247 C_h), _, B_h.2.2.1, ?_⟩
    try simp only [aI_wAL, fI_wAL, aL_wA, aL_wF, aI_wA_ne, aI_wF_ne, fI_wA_ne, fI_wF_ne, fI_wF_nk, aL_wAL_ne, J_sameA, J_sameF, aL_same, Nat.add_left_cancel_iff, Nat.add_eq_left, Nat.left_eq_add, not_false_eq_true, Nat.reduceEqDiff, Nat.reduceAdd, J_add, J_sub, J_mul, J_neg, J_and, J_or, J_xor, J_shl, J_shr, J_div, J_i2b, J_i2l, J_l2i, J_lcm, J_max, J_min, J_nab, J_nao, rdA, rdF, rdL, wA_fold, wF_fold, wL_fold, wC_fold]
    obtain ⟨k5, w⟩ := w
    refine ⟨congrArg Prod.fst B_h.2.2.2.2.1, ixs B_h.2.2.2.2.1 k5 (Nat.le_trans B_h.2.2.2.2.2 (by decide)), ?_⟩
    obtain ⟨k9, w⟩ := w
    obtain ⟨k10, w⟩ := w
    refine m122 (h := h) (s := (aI h qu x4)) (p := x1) C_h (by omega) k9 k10 ?_
    refine ⟨_, rfl, ?_⟩
    try simp only [aI_wAL, fI_wAL, aL_wA, aL_wF, aI_wA_ne, aI_wF_ne, fI_wA_ne, fI_wF_ne, fI_wF_nk, aL_wAL_ne, J_sameA, J_sameF, aL_same, Nat.add_left_cancel_iff, Nat.add_eq_left, Nat.left_eq_add, not_false_eq_true, Nat.reduceEqDiff, Nat.reduceAdd, J_add, J_sub, J_mul, J_neg, J_and, J_or, J_xor, J_shl, J_shr, J_div, J_i2b, J_i2l, J_l2i, J_lcm, J_max, J_min, J_nab, J_nao, rdA, rdF, rdL, wA_fold, wF_fold, wL_fold, wC_fold]
    obtain ⟨k13, w⟩ := w
    refine ⟨fun c11 => ?_, fun c11 => ?_⟩
    · have t12 : ¬ dgt 8 (aI h qu x4) x1 = x2 := (fun e => c11 ((Jeq (dgt_rg _ _ _) k13).mpr e))
      replace w := w.1 t12
      obtain ⟨k16, w⟩ := w
      refine ⟨fun c14 => ?_, fun c14 => ?_⟩
      · have t15 : ¬ 0 = x3 := (fun e => c14 ((Jeq (by decide) k16).mpr e))
        replace w := w.1 t15
        exact w
      · have t15 : 0 = x3 := ((Jeq (by decide) k16).mp (Classical.byContradiction c14))
        replace w := w.2 t15
        exact ⟨(Or.inr (by trivial)), w⟩
    · have t12 : dgt 8 (aI h qu x4) x1 = x2 := ((Jeq (dgt_rg _ _ _) k13).mp (Classical.byContradiction c11))
      replace w := w.2 t12
      obtain ⟨k19, w⟩ := w
      refine ⟨fun c17 => ?_, fun c17 => ?_⟩
      · have t18 : ¬ 1 = x3 := (fun e => c17 ((Jeq (by decide) k19).mpr e))
        replace w := w.1 t18
        exact w
      · have t18 : 1 = x3 := ((Jeq (by decide) k19).mp (Classical.byContradiction c17))
        replace w := w.2 t18
        exact ⟨(Or.inr (by trivial)), w⟩
theorem m140 {X : Cst} {d pl mk qu ln m : Nat} {S : Int → Int} {t : Prop} {w R T i N p r : Int} {u : Prop} {st : Int → Int → Int} {pa : Int → Int} {la : Int → Int × Int × Int} {h : AH} {Q : Post}
    (C : Lay h) (K : PlanAt h pl) (B : SeaAt h pl mk qu ln) (ap : apS pl mk qu) (hd : 2 ≤ d) (hm : m ≤ 5) (W : WF N S) (I : SeaI h pl mk qu ln m S t w st pa la R T i) (hp : 0 ≤ p ∧ p < m) (gr : -2147483648 ≤ r ∧ r < 2147483648)
    (k : Q (some (.int (J (bI (∃ j, (0 ≤ j ∧ j < T) ∧ (st j p = r ↔ u)))))) h) : Ex X PG d 140 0 [some (.ref 247), some (.int (J p)), some (.int (J r)), some (.int (J (bI u))), none] [] h Q := by
  obtain ⟨d, rfl⟩ : ∃ e, d = e + 1 := ⟨d - 1, by omega⟩
  have b := W.1
  unfold WFb at b
  have ln8 := B.2.2.2.2.2
  have tl := I.T_le
  have bu := bI_or u
  have pw := pw_32k (b := 8) (by decide) (by decide) hm
  have lp : ∀ (z : Nat) (i : Int), T - i = z → 0 ≤ i → (∀ j, 0 ≤ j → j < i → ¬ (st j p = r ↔ u)) → Ex X PG (d + 1) 140 3 [some (.ref 247), some (.int (J p)), some (.int (J r)), some (.int (J (bI u))), some (.int (J i))] [] h Q := by
    intro z
    induction z with
    | zero =>
      intro i e i0 a
      refine r140_3 C K B ap (by omega) ?_
      rw [I.2.1.1]
      refine ⟨by omega, fun _ => ?_, fun y => absurd (by omega) y⟩
      rw [bI_neg (fun ⟨j, hj, e⟩ => a j hj.1 (by omega) e)] at k
      exact k
    | succ z ih =>
      intro i e i0 a
      have si := I.2.1.2.1 i i0 (by omega)
      have kf8 := si.1.up b.2.1
      have ee := enc_b (b := 8) (by decide) m _ kf8.1
      have no : ¬ (st i p = r ↔ u) → Ex X PG (d + 1) 140 3 [some (.ref 247), some (.int (J p)), some (.int (J r)), some (.int (J (bI u))), some (.int (J (i + 1)))] [] h Q := by
        intro n
        refine ih (i + 1) (by omega) (by omega) (fun j j0 j1 => ?_)
        by_cases c : j = i
        · subst c; exact n
        · exact a j j0 (by omega)
      have ye : (st i p = r ↔ u) → Q (some (.int (J 1))) h := by
        intro n
        rw [bI_pos ⟨i, ⟨i0, by omega⟩, n⟩] at k
        exact k
      refine r140_3 C K B ap (by omega) ?_
      rw [I.2.1.1, si.2, dgt_enc (by decide) kf8 hp]
      refine ⟨by omega, fun y => absurd y (by omega), fun _ => ⟨by omega, by omega, by omega, gr, fun c => ⟨by omega, fun c2 => no (fun z => ?_), fun c2 => ye ⟨fun z => absurd z c, fun z => ?_⟩⟩, fun c => ⟨by omega, fun c2 => no (fun z => ?_), fun c2 => ye ⟨fun _ => ?_, fun _ => c⟩⟩⟩⟩
      · exact c (z.mpr (by
          apply Classical.byContradiction
          intro n
          rw [bI_neg n] at c2
          exact c2 rfl))
      · rw [bI_pos z] at c2; omega
      · have := z.mp c
        rw [bI_pos this] at c2
        exact c2 rfl
      · apply Classical.byContradiction
        intro n
        rw [bI_neg n] at c2
        omega
  refine r140_0 C K B ap ?_
  exact lp T.toNat 0 (by omega) (by omega) (fun j j0 j1 => by omega)
def upk (pa : Int → Int) : Nat → Int → Int
  | 0, i => i
  | n + 1, i => upk pa n (pa i)
theorem upk_s (pa : Int → Int) : ∀ (n : Nat) (i : Int), upk pa (n + 1) i = pa (upk pa n i) := by
  intro n
  induction n with
  | zero => intro i; rfl
  | succ n ih => intro i; exact ih (pa i)
-- OutwardDoors$Search.rowLength()I at 0
set_option maxRecDepth 20000 in
set_option maxHeartbeats 4000000 in
theorem r132_0 {X : Cst} {d : Nat} {pl : Nat} {h : AH} {Q : Post} (C_h : Lay h) (K_h_0 : PlanAt h pl) {mk qu ln : Nat} (B_h : SeaAt h pl mk qu ln) (ap : (mk = 248 ∨ 281 ≤ mk) ∧ (qu = 249 ∨ 281 ≤ qu) ∧ ¬ mk = qu ∧ (mk < pl ∨ pl + 10 < mk) ∧ (qu < pl ∨ pl + 10 < qu))
  (w : ((¬ fI h 247 7 = (-1) → Ex X PG (d + 1) 132 20 [some (.ref 247), some (.int (J 0)), some (.int (J (fI h 247 7))), some (.int (J 0))] [] h Q) ∧ (fI h 247 7 = (-1) → Q (some (.int (J (-2)))) h))) :
    Ex X PG (d + 1) 132 0 [some (.ref 247), none, none, none] [] h Q := by
  refine wpx_ok (cut := [20]) 11 d 132 0 _ _ _ _ ?_
  show hs h 247 = (0, 7) ∧ ((¬ (hF h 247 7) = (J (-1)) → hs h 247 = (0, 7) ∧ Ex X PG (d + 1) 132 20 [some (.ref 247), some (.int (J 0)), some (.int (hF h 247 7)), some (.int (J 0))] [] h Q) ∧ (¬ (¬ (hF h 247 7) = (J (-1))) → Q (some (.int (J (-2)))) h))
  try simp only [aI_wAL, fI_wAL, aL_wA, aL_wF, aI_wA_ne, aI_wF_ne, fI_wA_ne, fI_wF_ne, fI_wF_nk, aL_wAL_ne, J_sameA, J_sameF, aL_same, Nat.add_left_cancel_iff, Nat.add_eq_left, Nat.left_eq_add, not_false_eq_true, Nat.reduceEqDiff, Nat.reduceAdd, J_add, J_sub, J_mul, J_neg, J_and, J_or, J_xor, J_shl, J_shr, J_div, J_i2b, J_i2l, J_l2i, J_lcm, J_max, J_min, J_nab, J_nao, rdA, rdF, rdL, wA_fold, wF_fold, wL_fold, wC_fold]
  refine ⟨(ls247 C_h), ?_⟩
  refine ⟨fun c1 => ?_, fun c1 => ?_⟩
  · have t2 : ¬ fI h 247 7 = (-1) := (fun e => c1 ((Jeq (rg_toInt _) (by decide)).mpr e))
    replace w := w.1 t2
    refine ⟨(ls247 C_h), ?_⟩
    exact w
  · have t2 : fI h 247 7 = (-1) := ((Jeq (rg_toInt _) (by decide)).mp (Classical.byContradiction c1))
    replace w := w.2 t2
    exact w
-- OutwardDoors$Search.rowLength()I at 20
set_option maxRecDepth 20000 in
set_option maxHeartbeats 4000000 in
theorem r132_20 {X : Cst} {d : Nat} {x1 : Int} {x2 : Int} {x3 : Int} {pl : Nat} {h : AH} {Q : Post} (C_h : Lay h) (K_h_0 : PlanAt h pl) {mk qu ln : Nat} (B_h : SeaAt h pl mk qu ln) (ap : (mk = 248 ∨ 281 ≤ mk) ∧ (qu = 249 ∨ 281 ≤ qu) ∧ ¬ mk = qu ∧ (mk < pl ∨ pl + 10 < mk) ∧ (qu < pl ∨ pl + 10 < qu))
  (w : (-2147483648 ≤ x3 ∧ x3 < 2147483648) ∧ ((fI h 247 6 ≤ x3 → Q (some (.int (J x1))) h) ∧ (¬ fI h 247 6 ≤ x3 → (0 ≤ x2 ∧ x2 < ln) ∧ ((¬ iand (aI h mk x2) 67108864 = 0 → Q (some (.int (J x1))) h) ∧ (iand (aI h mk x2) 67108864 = 0 → Ex X PG (d + 1) 132 20 [some (.ref 247), some (.int (J (x1 + 1))), some (.int (J (iand (aI h mk x2) 32767))), some (.int (J (x3 + 1)))] [] h Q))))) :
    Ex X PG (d + 1) 132 20 [some (.ref 247), some (.int (J x1)), some (.int (J x2)), some (.int (J x3))] [] h Q := by
  refine wpx_ok (cut := [20]) 21 d 132 20 _ _ _ _ ?_
  show hs h 247 = (0, 7) ∧ (((hF h 247 6) ≤ (J x3) → Q (some (.int (J x1))) h) ∧ (¬ ((hF h 247 6) ≤ (J x3)) → hs h 247 = (0, 7) ∧ ∃ q4, hR h 247 4 = some q4 ∧ (hs h q4).1 = 1 ∧ ix (J x2) (hs h q4).2 ∧ ((¬ ((hI h q4 (Int32.toNatClampNeg (J x2))) &&& (J 67108864)) = (J 0) → Q (some (.int (J x1))) h) ∧ (¬ (¬ ((hI h q4 (Int32.toNatClampNeg (J x2))) &&& (J 67108864)) = (J 0)) → hs h 247 = (0, 7) ∧ ∃ q8, hR h 247 4 = some q8 ∧ (hs h q8).1 = 1 ∧ ix (J x2) (hs h q8).2 ∧ Ex X PG (d + 1) 132 20 [some (.ref 247), some (.int ((J x1) + (J 1))), some (.int ((hI h q8 (Int32.toNatClampNeg (J x2))) &&& (J 32767))), some (.int ((J x3) + (J 1)))] [] h Q))))
  try simp only [aI_wAL, fI_wAL, aL_wA, aL_wF, aI_wA_ne, aI_wF_ne, fI_wA_ne, fI_wF_ne, fI_wF_nk, aL_wAL_ne, J_sameA, J_sameF, aL_same, Nat.add_left_cancel_iff, Nat.add_eq_left, Nat.left_eq_add, not_false_eq_true, Nat.reduceEqDiff, Nat.reduceAdd, J_add, J_sub, J_mul, J_neg, J_and, J_or, J_xor, J_shl, J_shr, J_div, J_i2b, J_i2l, J_l2i, J_lcm, J_max, J_min, J_nab, J_nao, rdA, rdF, rdL, wA_fold, wF_fold, wL_fold, wC_fold]
  refine ⟨(ls247 C_h), ?_⟩
  obtain ⟨k3, w⟩ := w
  refine ⟨fun c1 => ?_, fun c1 => ?_⟩
  · have t2 : fI h 247 6 ≤ x3 := ((Jle (rg_toInt _) k3).mp c1)
    replace w := w.1 t2
    exact w
  · have t2 : ¬ fI h 247 6 ≤ x3 := (fun e => c1 ((Jle (rg_toInt _) k3).mpr e))
    replace w := w.2 t2
    refine ⟨(ls247 C_h), _, B_h.2.1, ?_⟩
    try simp only [aI_wAL, fI_wAL, aL_wA, aL_wF, aI_wA_ne, aI_wF_ne, fI_wA_ne, fI_wF_ne, fI_wF_nk, aL_wAL_ne, J_sameA, J_sameF, aL_same, Nat.add_left_cancel_iff, Nat.add_eq_left, Nat.left_eq_add, not_false_eq_true, Nat.reduceEqDiff, Nat.reduceAdd, J_add, J_sub, J_mul, J_neg, J_and, J_or, J_xor, J_shl, J_shr, J_div, J_i2b, J_i2l, J_l2i, J_lcm, J_max, J_min, J_nab, J_nao, rdA, rdF, rdL, wA_fold, wF_fold, wL_fold, wC_fold]
    obtain ⟨k5, w⟩ := w
    refine ⟨congrArg Prod.fst B_h.2.2.2.1, ixs B_h.2.2.2.1 k5 (Nat.le_trans B_h.2.2.2.2.2 (by decide)), ?_⟩
    refine ⟨fun c6 => ?_, fun c6 => ?_⟩
    · have t7 : ¬ iand (aI h mk x2) 67108864 = 0 := (fun e => c6 ((Jeq (rg_toInt _) (by decide)).mpr e))
      replace w := w.1 t7
      exact w
    · have t7 : iand (aI h mk x2) 67108864 = 0 := ((Jeq (rg_toInt _) (by decide)).mp (Classical.byContradiction c6))
      replace w := w.2 t7
      refine ⟨(ls247 C_h), _, B_h.2.1, ?_⟩
      try simp only [aI_wAL, fI_wAL, aL_wA, aL_wF, aI_wA_ne, aI_wF_ne, fI_wA_ne, fI_wF_ne, fI_wF_nk, aL_wAL_ne, J_sameA, J_sameF, aL_same, Nat.add_left_cancel_iff, Nat.add_eq_left, Nat.left_eq_add, not_false_eq_true, Nat.reduceEqDiff, Nat.reduceAdd, J_add, J_sub, J_mul, J_neg, J_and, J_or, J_xor, J_shl, J_shr, J_div, J_i2b, J_i2l, J_l2i, J_lcm, J_max, J_min, J_nab, J_nao, rdA, rdF, rdL, wA_fold, wF_fold, wL_fold, wC_fold]
      refine ⟨congrArg Prod.fst B_h.2.2.2.1, ixs B_h.2.2.2.1 k5 (Nat.le_trans B_h.2.2.2.2.2 (by decide)), ?_⟩
      exact w
theorem m132 {X : Cst} {d pl mk qu ln m : Nat} {S : Int → Int} {t : Prop} {w R T i N F : Int} {ks : List Int} {st : Int → Int → Int} {pa : Int → Int} {la : Int → Int × Int × Int} {h : AH} {Q : Post}
    (C : Lay h) (K : PlanAt h pl) (B : SeaAt h pl mk qu ln) (ap : apS pl mk qu) (hd : 1 ≤ d) (hm : m ≤ 5) (W : WF N S) (hl : (8 : Int) ^ m ≤ ln) (I : SeaI h pl mk qu ln m S t w st pa la R T i) (hF : 0 ≤ F ∧ F < T) (ky : KY pa la R ks F) (f7 : fI h 247 7 = enc 8 m (st F))
    (k : Q (some (.int (J ((ks.length : Int) - 1)))) h) : Ex X PG d 132 0 [some (.ref 247), none, none, none] [] h Q := by
  obtain ⟨d, rfl⟩ : ∃ e, d = e + 1 := ⟨d - 1, by omega⟩
  have b := W.1
  unfold WFb at b
  have ln8 := B.2.2.2.2.2
  have tl := I.T_le
  have en : ∀ y, 0 ≤ y → y < T → 0 ≤ enc 8 m (st y) ∧ enc 8 m (st y) < ln := fun y y0 y1 => by
    have := enc_b (b := 8) (by decide) m _ ((I.2.1.2.1 y y0 y1).1.up b.2.1).1
    omega
  have lp : ∀ (ls : List Int) (y x : Int), 0 ≤ y → y < T → KY pa la R ls y → 0 ≤ x → x + y ≤ F → x + ls.length = ks.length → Ex X PG (d + 1) 132 20 [some (.ref 247), some (.int (J x)), some (.int (J (enc 8 m (st y)))), some (.int (J x))] [] h Q := by
    intro ls
    induction ls with
    | nil => intro y x _ _ kk; exact kk.elim
    | cons u ls ih =>
      intro y x y0 y1 kk x0 xF xl
      have ey := en y y0 y1
      refine r132_20 C K B ap ?_
      rw [I.2.1.1]
      cases ls with
      | nil =>
        rw [I.2.1.2.2.1 y y0 kk.1]
        refine ⟨by omega, fun c => absurd c (by omega), fun _ => ⟨ey, fun _ => ?_, fun c => absurd c (by decide)⟩⟩
        rw [show (ks.length : Int) - 1 = x by simp at xl; omega] at k
        exact k
      | cons v ls =>
        have py := (I.2.2.1.2.2.1 y kk.1 y1).1
        have lq := (LG_la W hm I.2.2.1 (i := y) kk.1 y1).2
        have ep := en (pa y) py.1 (by omega)
        rw [I.2.1.2.2.2.1 y kk.1 y1, mko_p lq (by omega), mko_f lq (by omega)]
        refine ⟨by omega, fun c => absurd c (by omega), fun _ => ⟨ey, fun c => absurd rfl c, fun _ => ?_⟩⟩
        exact ih (pa y) (x + 1) py.1 (by omega) kk.2.2 (by omega) (by omega) (by simp at xl ⊢; omega)
  have e7 := en F hF.1 hF.2
  refine r132_0 C K B ap ?_
  rw [f7]
  exact ⟨fun _ => lp ks F 0 hF.1 hF.2 ky (by omega) (by omega) (by omega), fun c => absurd c (by omega)⟩
-- OutwardDoors$Search.before(I)I at 0
set_option maxRecDepth 20000 in
set_option maxHeartbeats 4000000 in
theorem r135_0 {X : Cst} {d : Nat} {x1 : Int} {pl : Nat} {h : AH} {Q : Post} (C_h : Lay h) (K_h_0 : PlanAt h pl) {mk qu ln : Nat} (B_h : SeaAt h pl mk qu ln) (ap : (mk = 248 ∨ 281 ≤ mk) ∧ (qu = 249 ∨ 281 ≤ qu) ∧ ¬ mk = qu ∧ (mk < pl ∨ pl + 10 < mk) ∧ (qu < pl ∨ pl + 10 < qu))
  (w : Ex X PG (d + 1) 135 7 [some (.ref 247), some (.int (J x1)), some (.int (J (fI h 247 7))), some (.int (J 0))] [] h Q) :
    Ex X PG (d + 1) 135 0 [some (.ref 247), some (.int (J x1)), none, none] [] h Q := by
  refine wpx_ok (cut := [7]) 5 d 135 0 _ _ _ _ ?_
  show hs h 247 = (0, 7) ∧ Ex X PG (d + 1) 135 7 [some (.ref 247), some (.int (J x1)), some (.int (hF h 247 7)), some (.int (J 0))] [] h Q
  try simp only [aI_wAL, fI_wAL, aL_wA, aL_wF, aI_wA_ne, aI_wF_ne, fI_wA_ne, fI_wF_ne, fI_wF_nk, aL_wAL_ne, J_sameA, J_sameF, aL_same, Nat.add_left_cancel_iff, Nat.add_eq_left, Nat.left_eq_add, not_false_eq_true, Nat.reduceEqDiff, Nat.reduceAdd, J_add, J_sub, J_mul, J_neg, J_and, J_or, J_xor, J_shl, J_shr, J_div, J_i2b, J_i2l, J_l2i, J_lcm, J_max, J_min, J_nab, J_nao, rdA, rdF, rdL, wA_fold, wF_fold, wL_fold, wC_fold]
  refine ⟨(ls247 C_h), ?_⟩
  exact w
-- OutwardDoors$Search.before(I)I at 7
set_option maxRecDepth 20000 in
set_option maxHeartbeats 4000000 in
theorem r135_7 {X : Cst} {d : Nat} {x1 : Int} {x2 : Int} {x3 : Int} {pl : Nat} {h : AH} {Q : Post} (C_h : Lay h) (K_h_0 : PlanAt h pl) {mk qu ln : Nat} (B_h : SeaAt h pl mk qu ln) (ap : (mk = 248 ∨ 281 ≤ mk) ∧ (qu = 249 ∨ 281 ≤ qu) ∧ ¬ mk = qu ∧ (mk < pl ∨ pl + 10 < mk) ∧ (qu < pl ∨ pl + 10 < qu))
  (w : (-2147483648 ≤ x3 ∧ x3 < 2147483648) ∧ (-2147483648 ≤ x1 ∧ x1 < 2147483648) ∧ ((x1 ≤ x3 → Q (some (.int (J x2))) h) ∧ (¬ x1 ≤ x3 → (0 ≤ x2 ∧ x2 < ln) ∧ Ex X PG (d + 1) 135 7 [some (.ref 247), some (.int (J x1)), some (.int (J (iand (aI h mk x2) 32767))), some (.int (J (x3 + 1)))] [] h Q))) :
    Ex X PG (d + 1) 135 7 [some (.ref 247), some (.int (J x1)), some (.int (J x2)), some (.int (J x3))] [] h Q := by
  refine wpx_ok (cut := [7]) 12 d 135 7 _ _ _ _ ?_
  show (((J x1) ≤ (J x3) → Q (some (.int (J x2))) h) ∧ (¬ ((J x1) ≤ (J x3)) → hs h 247 = (0, 7) ∧ ∃ q5, hR h 247 4 = some q5 ∧ (hs h q5).1 = 1 ∧ ix (J x2) (hs h q5).2 ∧ Ex X PG (d + 1) 135 7 [some (.ref 247), some (.int (J x1)), some (.int ((hI h q5 (Int32.toNatClampNeg (J x2))) &&& (J 32767))), some (.int ((J x3) + (J 1)))] [] h Q))
  try simp only [aI_wAL, fI_wAL, aL_wA, aL_wF, aI_wA_ne, aI_wF_ne, fI_wA_ne, fI_wF_ne, fI_wF_nk, aL_wAL_ne, J_sameA, J_sameF, aL_same, Nat.add_left_cancel_iff, Nat.add_eq_left, Nat.left_eq_add, not_false_eq_true, Nat.reduceEqDiff, Nat.reduceAdd, J_add, J_sub, J_mul, J_neg, J_and, J_or, J_xor, J_shl, J_shr, J_div, J_i2b, J_i2l, J_l2i, J_lcm, J_max, J_min, J_nab, J_nao, rdA, rdF, rdL, wA_fold, wF_fold, wL_fold, wC_fold]
  obtain ⟨k3, w⟩ := w
  obtain ⟨k4, w⟩ := w
  refine ⟨fun c1 => ?_, fun c1 => ?_⟩
  · have t2 : x1 ≤ x3 := ((Jle k4 k3).mp c1)
    replace w := w.1 t2
    exact w
  · have t2 : ¬ x1 ≤ x3 := (fun e => c1 ((Jle k4 k3).mpr e))
    replace w := w.2 t2
    refine ⟨(ls247 C_h), _, B_h.2.1, ?_⟩
    try simp only [aI_wAL, fI_wAL, aL_wA, aL_wF, aI_wA_ne, aI_wF_ne, fI_wA_ne, fI_wF_ne, fI_wF_nk, aL_wAL_ne, J_sameA, J_sameF, aL_same, Nat.add_left_cancel_iff, Nat.add_eq_left, Nat.left_eq_add, not_false_eq_true, Nat.reduceEqDiff, Nat.reduceAdd, J_add, J_sub, J_mul, J_neg, J_and, J_or, J_xor, J_shl, J_shr, J_div, J_i2b, J_i2l, J_l2i, J_lcm, J_max, J_min, J_nab, J_nao, rdA, rdF, rdL, wA_fold, wF_fold, wL_fold, wC_fold]
    obtain ⟨k6, w⟩ := w
    refine ⟨congrArg Prod.fst B_h.2.2.2.1, ixs B_h.2.2.2.1 k6 (Nat.le_trans B_h.2.2.2.2.2 (by decide)), ?_⟩
    exact w
theorem m135 {X : Cst} {d pl mk qu ln m : Nat} {S : Int → Int} {t : Prop} {w R T i N F n : Int} {ks : List Int} {st : Int → Int → Int} {pa : Int → Int} {la : Int → Int × Int × Int} {h : AH} {Q : Post}
    (C : Lay h) (K : PlanAt h pl) (B : SeaAt h pl mk qu ln) (ap : apS pl mk qu) (hd : 1 ≤ d) (hm : m ≤ 5) (W : WF N S) (hl : (8 : Int) ^ m ≤ ln) (I : SeaI h pl mk qu ln m S t w st pa la R T i) (hF : 0 ≤ F ∧ F < T) (ky : KY pa la R ks F) (f7 : fI h 247 7 = enc 8 m (st F)) (hn : 0 ≤ n ∧ n < ks.length) (h15 : ks.length ≤ 100000)
    (k : (0 ≤ upk pa n.toNat F ∧ upk pa n.toNat F < T) → KY pa la R (ks.drop n.toNat) (upk pa n.toNat F) → Q (some (.int (J (enc 8 m (st (upk pa n.toNat F)))))) h) : Ex X PG d 135 0 [some (.ref 247), some (.int (J n)), none, none] [] h Q := by
  obtain ⟨d, rfl⟩ : ∃ e, d = e + 1 := ⟨d - 1, by omega⟩
  have b := W.1
  unfold WFb at b
  have ln8 := B.2.2.2.2.2
  have tl := I.T_le
  have en : ∀ y, 0 ≤ y → y < T → 0 ≤ enc 8 m (st y) ∧ enc 8 m (st y) < ln := fun y y0 y1 => by
    have := enc_b (b := 8) (by decide) m _ ((I.2.1.2.1 y y0 y1).1.up b.2.1).1
    omega
  have lp : ∀ (z x : Nat), n - x = z → (x : Int) ≤ n → (0 ≤ upk pa x F ∧ upk pa x F < T) → KY pa la R (ks.drop x) (upk pa x F) → Ex X PG (d + 1) 135 7 [some (.ref 247), some (.int (J n)), some (.int (J (enc 8 m (st (upk pa x F))))), some (.int (J (x : Int)))] [] h Q := by
    intro z
    induction z with
    | zero =>
      intro x e xn hu kk
      have ex : n.toNat = x := by omega
      refine r135_7 C K B ap ⟨by omega, by omega, fun _ => ?_, fun y => absurd (by omega) y⟩
      rw [ex] at k
      exact k hu kk
    | succ z ih =>
      intro x e xn hu kk
      have ey := en _ hu.1 hu.2
      have dl : 1 < (ks.drop x).length := by rw [List.length_drop]; omega
      have dd : ks.drop (x + 1) = (ks.drop x).tail := by rw [List.tail_drop]
      refine r135_7 C K B ap ⟨by omega, by omega, fun y => absurd y (by omega), fun _ => ⟨ey, ?_⟩⟩
      have nx := ih (x + 1) (by omega) (by omega)
      rw [upk_s, dd] at nx
      cases hk : ks.drop x with
      | nil => rw [hk] at dl; simp at dl
      | cons u ls =>
        cases ls with
        | nil => rw [hk] at dl; simp at dl
        | cons v ls =>
          rw [hk] at kk nx
          have py := (I.2.2.1.2.2.1 _ kk.1 hu.2).1
          have lq := (LG_la W hm I.2.2.1 (i := upk pa x F) kk.1 hu.2).2
          have ep := en _ py.1 (by omega)
          rw [I.2.1.2.2.2.1 _ kk.1 hu.2, mko_f lq (by omega)]
          exact nx ⟨py.1, by omega⟩ kk.2.2
  refine r135_0 C K B ap ?_
  rw [f7]
  exact lp n.toNat 0 (by omega) (by omega) hF ky
