/-! THE REFERENCE: passes, who comes in. -/
theorem cnt_add {P R : Int → Prop} {p n : Int} (hp : 0 ≤ p ∧ p < n) (h : ∀ q, 0 ≤ q → q < n → ¬ q = p → (P q ↔ R q)) (hP : ¬ P p) (hR : R p) : cnt R n = cnt P n + 1 := by
  have low : ∀ i : Int, i ≤ p → cnt R i = cnt P i := fun i hi => cnt_cong (fun q a b => (h q a (by omega) (by omega)).symm)
  have up : ∀ m : Nat, p + 1 + m ≤ n → cnt R (p + 1 + m) = cnt P (p + 1 + m) + 1 := by
    intro m
    induction m with
    | zero =>
      intro _
      rw [show p + 1 + ((0 : Nat) : Int) = p + 1 by omega, cnt_s R hp.1, cnt_s P hp.1, low p (Int.le_refl _), bI_pos hR, bI_neg hP]
      omega
    | succ m ih =>
      intro l
      have a := ih (by omega)
      have x := cnt_s R (i := p + 1 + m) (by omega)
      have y := cnt_s P (i := p + 1 + m) (by omega)
      rw [show p + 1 + ((m + 1 : Nat) : Int) = p + 1 + m + 1 by omega, x, y, a, bI_iff (h (p + 1 + m) (by omega) (by omega) (by omega))]
      omega
  have := up (n - p - 1).toNat (by omega)
  rw [show p + 1 + (((n - p - 1).toNat : Nat) : Int) = n by omega] at this
  exact this
/-- who has come in by the doors below d, and the first k by d -/
def Kdk (S D : Int → Int) (d k p : Int) : Prop := cmI S D p ∧ (D p < d ∨ (D p = d ∧ rnk S D p < k))
theorem rnk_nn (S D : Int → Int) {p : Int} (h : 0 ≤ p) : 0 ≤ rnk S D p := (cnt_b _ h).1
theorem byw_lt {S D : Int → Int} {p : Int} (h2 : 0 ≤ S 2) (hp : 0 ≤ p) (c : cmI S D p) : rnk S D p < cnt (ouB S D (D p)) (S 2) := by
  rcases kth_or (ouB S D (D p)) h2 (rnk_nn S D hp) with q | q
  · have := c.2.2; unfold byw at this; omega
  · rw [← q.2.2.2]; exact cnt_lt q.1 q.2.1 q.2.2.1
theorem q233_92 {X : Cst} {d : Nat} {D : Int → Int} {h0 : AH} {Q : Post} (C0 : Lay h0) (hd : 2 ≤ d) (S : Int → Int) (hT : Tn S) (W : WF 999 S) (hD : ∀ p, 0 ≤ p → p < S 2 → D p = -1 ∨ (0 ≤ D p ∧ D p < S 1)) (w : WDs S D (aI h0 268) (aI h0 269) (S 2)) (y : Int) (hy : 0 ≤ y ∧ y < S 1)
    (k : ∀ h l3, Fr (fun c _ => c = 266) h0 h → aI h 266 = layP S (pclg S D (gO S D) (Kdk S D (y + 1) 0)) (S 3) → Ex X PG (d + 1) 233 80 [some (.ref 256), some (.int (J (cnt (gO S D) (S 2) + cnt (Kdk S D (y + 1) 0) (S 2)))), some (.int (J (y + 1))), l3] [] h Q) :
    ∀ (n : Nat) (i : Int) (h : AH), Fr (fun c _ => c = 266) h0 h → 6 - i ≤ n → 0 ≤ i → i ≤ 5 → aI h 266 = layP S (pclg S D (gO S D) (Kdk S D y i)) (S 3) → Ex X PG (d + 1) 233 92 [some (.ref 256), some (.int (J (cnt (gO S D) (S 2) + cnt (Kdk S D y i) (S 2)))), some (.int (J y)), some (.int (J i))] [] h Q := by
  have b := W.1
  unfold WFb at b
  have two : ∀ F m, layP S F m 2 = S 2 := fun F m => layP_k (by decide) (by decide) (Or.inl (by decide))
  have tot : ∀ P : Int → Prop, cnt P (S 2) ≤ 4 := fun P => by have := cnt_b P (i := S 2) (by omega); omega
  -- the door is through
  have thr : ∀ (i : Int) (h : AH) (l3 : Option Value), 0 ≤ i → Fr (fun c _ => c = 266) h0 h → aI h 266 = layP S (pclg S D (gO S D) (Kdk S D y i)) (S 3) → (∀ p, 0 ≤ p → p < S 2 → cmI S D p → D p = y → rnk S D p < i) → Ex X PG (d + 1) 233 80 [some (.ref 256), some (.int (J (cnt (gO S D) (S 2) + cnt (Kdk S D y i) (S 2)))), some (.int (J (y + 1))), l3] [] h Q := by
    intro i h l3 hi F e m
    have q : ∀ p, 0 ≤ p → p < S 2 → (Kdk S D y i p ↔ Kdk S D (y + 1) 0 p) := by
      intro p h1 h2
      have rn := rnk_nn S D h1
      constructor
      · intro z; exact ⟨z.1, Or.inl (by have := z.2; omega)⟩
      · intro z
        refine ⟨z.1, ?_⟩
        by_cases c : D p = y
        · exact Or.inr ⟨c, m p h1 h2 z.1 c⟩
        · have := z.2; exact Or.inl (by omega)
    rw [cnt_cong q]
    refine k h l3 F ?_
    rw [e]
    refine layP_ext hT (Tn_lay6 hT) (by omega) layP_3 (fun p w h1 h2 h3 h4 => ?_) (fun k a b c d => layP_k ⟨a, b⟩ c d)
    rw [layP_p (by omega) ⟨h1, h2⟩ ⟨h3, h4⟩]
    exact pclg_cong Iff.rfl (q p h1 h2)
  intro n
  induction n with
  | zero => intro i h F h1 h2 h3; omega
  | succ n ih =>
    intro i h F h1 h2 h3 e
    have e8 := F.a 268 (fun _ => by decide)
    have e9 := F.a 269 (fun _ => by decide)
    have k1 : kth (fun q => aI h 268 q = y ∧ aI h 269 q = 1) (S 2) i = kth (ouB S D y) (S 2) i := kth_cong (fun q a c => by
      rw [e8, e9, (w q a c).1, (w q a c).2]
      refine and_congr Iff.rfl ⟨fun z => ?_, fun z => bI_pos z⟩
      by_cases g : gO S D q
      · exact g
      · rw [bI_neg g] at z; omega)
    have k0 : kth (fun q => aI h 268 q = y ∧ aI h 269 q = 0) (S 2) i = kth (inB S D y) (S 2) i := kth_cong (fun q a c => by
      rw [e8, e9, (w q a c).1, (w q a c).2]
      refine and_congr Iff.rfl ⟨fun z g => ?_, fun z => bI_neg z⟩
      rw [bI_pos g] at z; omega)
    refine r233_92 (F.C C0) (by omega) ?_
    rw [e, two, k1, k0]
    have o1 := kth_or (ouB S D y) (n := S 2) (k := i) (by omega) h2
    have o0 := kth_or (inB S D y) (n := S 2) (k := i) (by omega) h2
    refine ⟨by omega, by omega, by omega, by omega, fun c => ?_, fun c => ⟨by omega, fun c2 => ?_, fun c2 => ?_⟩⟩
    · refine thr i h _ h2 F e (fun p a q c3 c4 => ?_)
      have := byw_lt (by omega) a c3
      rw [c4] at this
      omega
    · refine thr i h _ h2 F e (fun p a q c3 c4 => ?_)
      have := cnt_lt (P := inB S D y) a q ⟨c4, c3.2.1⟩
      unfold rnk
      rw [c4]
      omega
    · have o1 := o1.resolve_left (fun z => by omega)
      have o0 := o0.resolve_left (fun z => by omega)
      -- p comes in by r
      generalize hr : kth (ouB S D y) (S 2) i = r at *
      generalize hpp : kth (inB S D y) (S 2) i = p at *
      have dp : D p = y := o0.2.2.1.1
      have rk : rnk S D p = i := by unfold rnk; rw [dp]; exact o0.2.2.2
      have bw : byw S D p = r := by unfold byw; rw [dp, rk]; exact hr
      have cm : cmI S D p := ⟨by omega, o0.2.2.1.2, by omega⟩
      have nk : ¬ Kdk S D y i p := fun z => by have := z.2; omega
      have yk : Kdk S D y (i + 1) p := ⟨cm, Or.inr ⟨dp, by omega⟩⟩
      have ot : ∀ q, 0 ≤ q → q < S 2 → ¬ q = p → (Kdk S D y i q ↔ Kdk S D y (i + 1) q) := by
        intro q a c nq
        constructor
        · intro z; exact ⟨z.1, z.2.imp id (fun u => ⟨u.1, by omega⟩)⟩
        · intro z
          refine ⟨z.1, z.2.imp id (fun u => ⟨u.1, ?_⟩)⟩
          by_cases ri : rnk S D q = i
          · refine absurd (cnt_uniq a o0.1 (P := inB S D y) ⟨u.1, z.1.2.1⟩ o0.2.2.1 ?_) nq
            unfold rnk at ri
            rw [u.1] at ri
            omega
          · omega
      have ct := cnt_add ⟨o0.1, o0.2.1⟩ ot nk yk
      have pp := W.2.1 p o0.1 o0.2.1
      have p3 : pS (layP S (pclg S D (gO S D) (Kdk S D y i)) (S 3)) p 3 = pS S p 3 := by
        rw [layP_p (by omega) ⟨o0.1, o0.2.1⟩ (by decide)]
        unfold pclg
        rw [if_neg (by decide), if_pos rfl, bI_neg nk, Int.add_zero]
      have nd : nr (layP S (pclg S D (gO S D) (Kdk S D y i)) (S 3)) y = nr S y := layP_k (by omega) (by omega) (by omega)
      rw [p3, nd]
      refine ⟨by omega, by omega, by omega, by omega, fun h25 s25 p25 => ?_⟩
      rw [show cnt (gO S D) (S 2) + cnt (Kdk S D y i) (S 2) + 1 = cnt (gO S D) (S 2) + cnt (Kdk S D y (i + 1)) (S 2) by omega]
      have lt4 : i < 4 := by have := cnt_lt o1.1 o1.2.1 o1.2.2.1; have := tot (ouB S D y); omega
      refine ih (i + 1) h25 (F.tr p25.1) (by omega) (by omega) (by omega) ?_
      rw [p25.2]
      rw [layP_uu (G := fun q u => if q = p ∧ u = 0 then nr S y else pclg S D (gO S D) (Kdk S D y i) q u) hT (by omega) ⟨o0.1, o0.2.1⟩ (by decide) (if_pos ⟨rfl, rfl⟩) (fun q u _ _ _ _ c => if_neg c)]
      rw [layP_uu (G := fun q u => if q = p ∧ u = 3 then pS S p 3 + 1 else if q = p ∧ u = 0 then nr S y else pclg S D (gO S D) (Kdk S D y i) q u) hT (by omega) ⟨o0.1, o0.2.1⟩ (by decide) (if_pos ⟨rfl, rfl⟩) (fun q u _ _ _ _ c => if_neg c)]
      refine layP_uu hT (by omega) ⟨o0.1, o0.2.1⟩ (by decide) ?_ (fun q u a b c d nn => ?_)
      · unfold pclg
        rw [if_neg (by decide), if_neg (by decide), if_neg (by decide), if_pos rfl, if_pos yk, bw]
      · by_cases qi : q = p
        · subst qi
          have u5 : ¬ u = 5 := fun z => nn ⟨rfl, z⟩
          by_cases u3 : u = 3
          · subst u3
            rw [if_pos ⟨rfl, rfl⟩]
            unfold pclg
            rw [if_neg (by decide), if_pos rfl, bI_pos yk]
          · rw [if_neg (fun z => u3 z.2)]
            by_cases u0 : u = 0
            · subst u0
              rw [if_pos ⟨rfl, rfl⟩]
              unfold pclg
              rw [if_pos rfl, if_neg cm.2.1, if_pos yk, dp]
            · rw [if_neg (fun z => u0 z.2)]
              unfold pclg
              rw [if_neg u0, if_neg u0, if_neg u3, if_neg u3, if_neg u5, if_neg u5]
        · rw [if_neg (fun z => qi z.1), if_neg (fun z => qi z.1)]
          exact pclg_cong Iff.rfl (ot q a b qi).symm
theorem q233_80 {X : Cst} {d : Nat} {D : Int → Int} {h0 : AH} {Q : Post} (C0 : Lay h0) (hd : 2 ≤ d) (S : Int → Int) (hT : Tn S) (W : WF 999 S) (hD : ∀ p, 0 ≤ p → p < S 2 → D p = -1 ∨ (0 ≤ D p ∧ D p < S 1)) (w : WDs S D (aI h0 268) (aI h0 269) (S 2))
    (k : ∀ h, Fr (fun c _ => c = 266) h0 h → aI h 266 = mom S D → Q (some (.int (J (momN S D)))) h) :
    ∀ (n : Nat) (y : Int) (h : AH) (l3 : Option Value), Fr (fun c _ => c = 266) h0 h → S 1 - y = n → 0 ≤ y → aI h 266 = layP S (pclg S D (gO S D) (Kdk S D y 0)) (S 3) → Ex X PG (d + 1) 233 80 [some (.ref 256), some (.int (J (cnt (gO S D) (S 2) + cnt (Kdk S D y 0) (S 2)))), some (.int (J y)), l3] [] h Q := by
  have b := W.1
  unfold WFb at b
  have one : ∀ F m, layP S F m 1 = S 1 := fun F m => layP_k (by decide) (by decide) (Or.inl (by decide))
  intro n
  induction n with
  | zero =>
    intro y h l3 F h1 h2 e
    have q : ∀ p, 0 ≤ p → p < S 2 → (Kdk S D y 0 p ↔ cmI S D p) := fun p a c => ⟨fun z => z.1, fun z => ⟨z, Or.inl (by have := hD p a c; have := z.1; omega)⟩⟩
    refine r233_80 (F.C C0) ?_
    rw [e, one, layP_3]
    refine ⟨by omega, fun _ => ?_, fun c => absurd (by omega) c⟩
    rw [cnt_cong q]
    refine k _ (F.wA rfl) ?_
    rw [aI_wA (by omega), e, layP_m hT (by omega)]
    refine layP_ext hT (Tn_lay6 hT) (by omega) layP_3 (fun p w h1 h2 h3 h4 => ?_) (fun k a b c d => layP_k ⟨a, b⟩ c d)
    rw [layP_p (by omega) ⟨h1, h2⟩ ⟨h3, h4⟩]
    exact pclg_cong Iff.rfl (q p h1 h2)
  | succ n ih =>
    intro y h l3 F h1 h2 e
    refine r233_80 (F.C C0) ?_
    rw [e, one]
    refine ⟨by omega, fun c => absurd c (by omega), fun _ => ?_⟩
    refine q233_92 C0 hd S hT W hD w y (by omega) (fun h' l3 F' e' => ?_) 6 0 h F (by omega) (by omega) (by omega) e
    exact ih (y + 1) h' l3 F' (by omega) (by omega) e'
theorem m233 {X : Cst} {d : Nat} {Rs : Int → Ru} {h : AH} {Q : Post} (C : Lay h) (hd : 10 ≤ d) (W : WF 999 (aI h 266)) (RO : RefOK h (fI h 256 21) Rs)
    (k : ∀ h', Fr TP h h' → aI h' 266 = mom (aI h 266) (wdo (aI h 266) (fI h 256 21) Rs) → Q (some (.int (J (momN (aI h 266) (wdo (aI h 266) (fI h 256 21) Rs))))) h') : Ex X PG d 233 0 [some (.ref 256), none, none, none] [] h Q := by
  obtain ⟨d, rfl⟩ : ∃ e, d = e + 1 := ⟨d - 1, by omega⟩
  have b := W.1
  unfold WFb at b
  have hT := Tn_aI h 266
  have hD : ∀ p, 0 ≤ p → p < aI h 266 2 → wdo (aI h 266) (fI h 256 21) Rs p = -1 ∨ (0 ≤ wdo (aI h 266) (fI h 256 21) Rs p ∧ wdo (aI h 266) (fI h 256 21) Rs p < aI h 266 1) := fun p _ _ => wdoN_b W _ p
  refine r233_0 C ?_
  refine q233_4 C (by omega) W RO (fun h1 F1 w1 => ?_) (aI h 266 2).toNat 0 h Fr.rf (by omega) (by omega) (fun q a c => by omega)
  have e1 := F1.a 266 (fun k z => by unfold TW at z; omega)
  have := q233_27 (X := X) (d := d) (Q := Q) (l3 := none) (F1.C C) (by omega) (aI h 266) hT W hD w1 (fun h2 F2 e2 => ?_) (aI h 266 2).toNat 0 h1 Fr.rf (by omega) (by omega) ?_
  · rw [cnt_0] at this; exact this
  · have c0 : cnt (Kdk (aI h 266) (wdo (aI h 266) (fI h 256 21) Rs) 0 0) (aI h 266 2) = 0 := by
      have : cnt (Kdk (aI h 266) (wdo (aI h 266) (fI h 256 21) Rs) 0 0) (aI h 266 2) = cnt (fun _ => False) (aI h 266 2) := cnt_cong (fun q a c => ⟨fun z => by have := z.2; have := z.1.1; have := rnk_nn (aI h 266) (wdo (aI h 266) (fI h 256 21) Rs) a; omega, fun z => z.elim⟩)
      rw [this]
      unfold cnt
      have z : ∀ n : Nat, sumN n (fun _ => bI False) = 0 := by
        intro n
        induction n with
        | zero => rfl
        | succ n ih => show sumN n _ + bI False = 0; rw [ih, bI_neg (fun z => z)]; rfl
      exact z _
    have w2 : WDs (aI h 266) (wdo (aI h 266) (fI h 256 21) Rs) (aI h1 268) (aI h1 269) (aI h 266 2) := w1
    have := q233_80 (X := X) (d := d) (Q := Q) (F1.C C) (by omega) (aI h 266) hT W hD w2 (fun h3 F3 e3 => k h3 ((F1.mo fun c k z => by unfold TW at z; unfold TP; omega).tr (F3.mo fun c k z => by unfold TP; omega)) e3) (aI h 266 1).toNat 0 h2 none F2 (by omega) (by omega) ?_
    · rw [c0, Int.add_zero] at this; exact this
    · rw [e2]
      refine layP_ext hT (Tn_lay6 hT) (by omega) layP_3 (fun p w h1 h2 h3 h4 => ?_) (fun k a b c d => layP_k ⟨a, b⟩ c d)
      rw [layP_p (by omega) ⟨h1, h2⟩ ⟨h3, h4⟩]
      exact pclg_cong Iff.rfl ⟨fun z => z.elim, fun z => by have := z.2; have := z.1.1; have := rnk_nn (aI h 266) (wdo (aI h 266) (fI h 256 21) Rs) h1; omega⟩
  · rw [e1]
    have := layP_id hT (by omega : 0 ≤ aI h 266 2 ∧ aI h 266 2 ≤ 4)
    rw [this]
    have e3 : layP (aI h 266) (pS (aI h 266)) (aI h 266 3) = aI h 266 := this.symm
    rw [e3]
    refine layP_ext hT hT (by omega) rfl (fun p w h1 h2 h3 h4 => ?_) (fun k a b c d => rfl)
    unfold pclg
    have ng : ¬ (gO (aI h 266) (wdo (aI h 266) (fI h 256 21) Rs) p ∧ p < 0) := fun z => by have := z.2; omega
    by_cases c0 : w = 0
    · rw [if_pos c0, if_neg ng, if_neg (fun z => z), c0]
    · rw [if_neg c0]
      by_cases c3 : w = 3
      · rw [if_pos c3, bI_neg (fun z => z), c3, Int.add_zero]
      · rw [if_neg c3]
        by_cases c4 : w = 4
        · rw [if_pos c4, bI_neg ng, c4, Int.add_zero]
        · rw [if_neg c4]
          by_cases c5 : w = 5
          · rw [if_pos c5, if_neg (fun z => z), c5]
          · rw [if_neg c5]
