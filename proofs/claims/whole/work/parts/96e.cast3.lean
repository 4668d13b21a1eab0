/-! What holds of the cells of a castle that is being read. -/
theorem nmc_0 {tp : Int → Int} {L j lo hi : Int} {bar : Int → Prop} {K : Int → Int → RS} (h0 : 0 ≤ j) (hj : j ≤ L) (e : (nmc tp L j lo hi bar K).1 = 0) : nmF tp L j lo hi bar = 0 ∧ (lo ≤ tkV tp L j ∧ tkV tp L j ≤ hi) ∧ ¬ bar (tkV tp L j) ∧ nmc tp L j lo hi bar K = K (tkV tp L j) (nx tp L j) ∧ (0 ≤ nx tp L j ∧ nx tp L j ≤ L) := by
  have nb := nx_b (tp := tp) h0 hj
  unfold nmc at e ⊢
  by_cases c : nmF tp L j lo hi bar = 0
  · have a := nmF_0 h0 c
    exact ⟨c, a.2.1, a.2.2, pI_pos c, by omega⟩
  · rw [pI_neg c] at e; exact absurd e c
theorem dorR_v {R : Int → Int} {w a b : Int} (h : 0 ≤ R 1 ∧ R 1 < 14) : dorR R w a b 1 = R 1 + 1 ∧ dorR R w a b (42 + 3 * R 1) = a ∧ dorR R w a b (42 + 3 * R 1 + 1) = b ∧ dorR R w a b (42 + 3 * R 1 + 2) = w ∧ ∀ k, 0 ≤ k → k < 84 → ¬ k = 1 → (k < 42 + 3 * R 1 ∨ 42 + 3 * R 1 + 2 < k) → dorR R w a b k = R k := by
  unfold dorR
  refine ⟨uu_eq _ _ _, ?_, ?_, ?_, fun k k0 k1 k2 k3 => ?_⟩
  · rw [uu_ne (by omega) (by omega) (by omega), uu_ne (by omega) (by omega) (by omega), uu_ne (by omega) (by omega) (by omega), uu_eq]
  · rw [uu_ne (by omega) (by omega) (by omega), uu_ne (by omega) (by omega) (by omega), uu_eq]
  · rw [uu_ne (by omega) (by omega) (by omega), uu_eq]
  · rw [uu_ne (by omega) (by omega) (by omega), uu_ne (by omega) (by omega) (by omega), uu_ne (by omega) (by omega) (by omega), uu_ne (by omega) (by omega) (by omega)]
theorem perR_v {R : Int → Int} {a b c : Int} (h : 0 ≤ R 2 ∧ R 2 < 4) : perR R a b c 2 = R 2 + 1 ∧ perR R a b c (10 + 6 * R 2) = a ∧ perR R a b c (10 + 6 * R 2 + 1) = b ∧ perR R a b c (10 + 6 * R 2 + 2) = c ∧ perR R a b c (10 + 6 * R 2 + 3) = 0 ∧ perR R a b c (10 + 6 * R 2 + 4) = 0 ∧ perR R a b c (10 + 6 * R 2 + 5) = -1 ∧ ∀ k, 0 ≤ k → k < 84 → ¬ k = 2 → (k < 10 + 6 * R 2 ∨ 10 + 6 * R 2 + 5 < k) → perR R a b c k = R k := by
  unfold perR
  refine ⟨uu_eq _ _ _, ?_, ?_, ?_, ?_, ?_, ?_, fun k k0 k1 k2 k3 => ?_⟩
  · rw [uu_ne (by omega) (by omega) (by omega), uu_ne (by omega) (by omega) (by omega), uu_ne (by omega) (by omega) (by omega), uu_ne (by omega) (by omega) (by omega), uu_ne (by omega) (by omega) (by omega), uu_ne (by omega) (by omega) (by omega), uu_eq]
  · rw [uu_ne (by omega) (by omega) (by omega), uu_ne (by omega) (by omega) (by omega), uu_ne (by omega) (by omega) (by omega), uu_ne (by omega) (by omega) (by omega), uu_ne (by omega) (by omega) (by omega), uu_eq]
  · rw [uu_ne (by omega) (by omega) (by omega), uu_ne (by omega) (by omega) (by omega), uu_ne (by omega) (by omega) (by omega), uu_ne (by omega) (by omega) (by omega), uu_eq]
  · rw [uu_ne (by omega) (by omega) (by omega), uu_ne (by omega) (by omega) (by omega), uu_ne (by omega) (by omega) (by omega), uu_eq]
  · rw [uu_ne (by omega) (by omega) (by omega), uu_ne (by omega) (by omega) (by omega), uu_eq]
  · rw [uu_ne (by omega) (by omega) (by omega), uu_eq]
  · rw [uu_ne (by omega) (by omega) (by omega), uu_ne (by omega) (by omega) (by omega), uu_ne (by omega) (by omega) (by omega), uu_ne (by omega) (by omega) (by omega), uu_ne (by omega) (by omega) (by omega), uu_ne (by omega) (by omega) (by omega), uu_ne (by omega) (by omega) (by omega)]
theorem CI.cas {n : Int} {R : Int → Int} {v : Int} (I : CI n R) (hn : n < 40) (z : ¬ 0 < R 0) (hv : 2 ≤ v ∧ v ≤ 8) : CI (n + 1) (uu_ R 0 v) := by
  obtain ⟨I0, I1, I2, I3, I4, I5, I6⟩ := I
  have o : ∀ k, 0 < k → k < 84 → uu_ R 0 v k = R k := fun k k0 k1 => uu_ne (by omega) (by omega) (by omega)
  have e0 : uu_ R 0 v 0 = v := uu_eq _ _ _
  have r1 : R 1 = 0 := by
    apply Classical.byContradiction; intro c
    have := I4 0 (by omega) (by omega); omega
  have r2 : R 2 = 0 := by
    apply Classical.byContradiction; intro c
    have := I6 0 (by omega) (by omega); omega
  unfold CI
  rw [e0, o 1 (by omega) (by omega), o 2 (by omega) (by omega), o 3 (by omega) (by omega), o 4 (by omega) (by omega), o 5 (by omega) (by omega)]
  refine ⟨by omega, by omega, I2, fun r r0 r1 => ?_, fun d d0 d1 => by omega, fun d e d0 d1 d2 => by omega, fun p p0 p1 => by omega⟩
  rw [o _ (by omega) (by omega)]; exact I3 r r0 r1
theorem CI.far {n : Int} {R : Int → Int} {r f : Int} (I : CI n R) (hn : n < 40) (z : ¬ R 0 = 0) (hr : 0 ≤ r ∧ r ≤ R 0 - 1) (hf : 0 ≤ f ∧ f ≤ 9) : CI (n + 1) (uu_ R (34 + r) f) := by
  obtain ⟨I0, I1, I2, I3, I4, I5, I6⟩ := I
  have o : ∀ k, 0 ≤ k → k < 84 → ¬ k = 34 + r → uu_ R (34 + r) f k = R k := fun k k0 k1 k2 => uu_ne (by omega) (by omega) (by omega)
  unfold CI
  rw [o 0 (by omega) (by omega) (by omega), o 1 (by omega) (by omega) (by omega), o 2 (by omega) (by omega) (by omega), o 3 (by omega) (by omega) (by omega), o 4 (by omega) (by omega) (by omega), o 5 (by omega) (by omega) (by omega)]
  refine ⟨by omega, I1, I2, fun x x0 x1 => ?_, fun d d0 d1 => ?_, fun d e d0 d1 d2 => ?_, fun p p0 p1 => ?_⟩
  · by_cases c : x = r
    · rw [c, uu_eq]; omega
    · rw [o _ (by omega) (by omega) (by omega)]; exact I3 x x0 x1
  · rw [o _ (by omega) (by omega) (by omega), o _ (by omega) (by omega) (by omega), o _ (by omega) (by omega) (by omega)]; exact I4 d d0 d1
  · rw [o (42 + 3 * d) (by omega) (by omega) (by omega), o (42 + 3 * d + 1) (by omega) (by omega) (by omega), o (42 + 3 * e) (by omega) (by omega) (by omega), o (42 + 3 * e + 1) (by omega) (by omega) (by omega)]; exact I5 d e d0 d1 d2
  · rw [o _ (by omega) (by omega) (by omega), o _ (by omega) (by omega) (by omega), o _ (by omega) (by omega) (by omega), o _ (by omega) (by omega) (by omega), o _ (by omega) (by omega) (by omega), o _ (by omega) (by omega) (by omega)]; exact I6 p p0 p1
theorem CI.nig {n : Int} {R : Int → Int} {a b : Int} (I : CI n R) (hn : n < 40) (z : ¬ R 0 = 0) (ha : 0 ≤ a) (hb : a ≤ b ∧ b ≤ 23) : CI (n + 1) (uu_ (uu_ R 4 a) 5 b) := by
  obtain ⟨I0, I1, I2, I3, I4, I5, I6⟩ := I
  have o : ∀ k, 0 ≤ k → k < 84 → ¬ k = 4 → ¬ k = 5 → uu_ (uu_ R 4 a) 5 b k = R k := fun k k0 k1 k2 k3 => by rw [uu_ne (by omega) (by omega) (by omega), uu_ne (by omega) (by omega) (by omega)]
  have e5 : uu_ (uu_ R 4 a) 5 b 5 = b := uu_eq _ _ _
  have e4 : uu_ (uu_ R 4 a) 5 b 4 = a := by rw [uu_ne (by omega) (by omega) (by omega), uu_eq]
  unfold CI
  rw [e4, e5, o 0 (by omega) (by omega) (by omega) (by omega), o 1 (by omega) (by omega) (by omega) (by omega), o 2 (by omega) (by omega) (by omega) (by omega), o 3 (by omega) (by omega) (by omega) (by omega)]
  refine ⟨by omega, I1, Or.inr (by omega), fun x x0 x1 => ?_, fun d d0 d1 => ?_, fun d e d0 d1 d2 => ?_, fun p p0 p1 => ?_⟩
  · rw [o _ (by omega) (by omega) (by omega) (by omega)]; exact I3 x x0 x1
  · rw [o _ (by omega) (by omega) (by omega) (by omega), o _ (by omega) (by omega) (by omega) (by omega), o _ (by omega) (by omega) (by omega) (by omega)]; exact I4 d d0 d1
  · rw [o (42 + 3 * d) (by omega) (by omega) (by omega) (by omega), o (42 + 3 * d + 1) (by omega) (by omega) (by omega) (by omega), o (42 + 3 * e) (by omega) (by omega) (by omega) (by omega), o (42 + 3 * e + 1) (by omega) (by omega) (by omega) (by omega)]; exact I5 d e d0 d1 d2
  · rw [o _ (by omega) (by omega) (by omega) (by omega), o _ (by omega) (by omega) (by omega) (by omega), o _ (by omega) (by omega) (by omega) (by omega), o _ (by omega) (by omega) (by omega) (by omega), o _ (by omega) (by omega) (by omega) (by omega), o _ (by omega) (by omega) (by omega) (by omega)]; exact I6 p p0 p1
theorem CI.dor {n : Int} {R : Int → Int} {w a b : Int} (I : CI n R) (hn : n < 40) (z : ¬ R 0 = 0) (h14 : ¬ R 1 = 14) (hw : w = 0 ∨ w = 1) (ha : 0 ≤ a ∧ a ≤ R 0 - 1) (hb : 0 ≤ b ∧ b ≤ R 0 - 1) (nb : ¬ dbar R a b) : CI (n + 1) (dorR R w a b) := by
  obtain ⟨I0, I1, I2, I3, I4, I5, I6⟩ := I
  obtain ⟨v1, va, vb, vw, vo⟩ := dorR_v (w := w) (a := a) (b := b) (R := R) (by omega)
  have ov : ∀ d, 0 ≤ d → d < R 1 → dorR R w a b (42 + 3 * d) = R (42 + 3 * d) ∧ dorR R w a b (42 + 3 * d + 1) = R (42 + 3 * d + 1) ∧ dorR R w a b (42 + 3 * d + 2) = R (42 + 3 * d + 2) := fun d d0 d1 => ⟨vo _ (by omega) (by omega) (by omega) (by omega), vo _ (by omega) (by omega) (by omega) (by omega), vo _ (by omega) (by omega) (by omega) (by omega)⟩
  have nab : ¬ a = b := fun e => nb (Or.inl e.symm)
  have nl : ∀ m, 0 ≤ m → m < R 1 → ¬ ((R (42 + 3 * m) = a ∧ R (42 + 3 * m + 1) = b) ∨ (R (42 + 3 * m) = b ∧ R (42 + 3 * m + 1) = a)) := fun m m0 m1 y => nb (Or.inr ⟨m, ⟨m0, m1⟩, y⟩)
  have w0 := vo 0 (by omega) (by omega) (by omega) (by omega)
  have w2 := vo 2 (by omega) (by omega) (by omega) (by omega)
  have w3 := vo 3 (by omega) (by omega) (by omega) (by omega)
  have w4 := vo 4 (by omega) (by omega) (by omega) (by omega)
  have w5 := vo 5 (by omega) (by omega) (by omega) (by omega)
  unfold CI
  rw [v1, w0, w2, w3, w4, w5]
  refine ⟨by omega, by omega, I2, fun x x0 x1 => ?_, fun d d0 d1 => ?_, fun d e d0 d1 d2 => ?_, fun p p0 p1 => ?_⟩
  · rw [vo _ (by omega) (by omega) (by omega) (by omega)]; exact I3 x x0 x1
  · by_cases c : d = R 1
    · rw [c, va, vb, vw]; omega
    · have o := ov d d0 (by omega)
      rw [o.1, o.2.1, o.2.2]; exact I4 d d0 (by omega)
  · have o := ov d d0 (by omega)
    rw [o.1, o.2.1]
    by_cases c : e = R 1
    · rw [c, va, vb]; exact nl d d0 (by omega)
    · have o2 := ov e (by omega) (by omega)
      rw [o2.1, o2.2.1]; exact I5 d e d0 d1 (by omega)
  · rw [vo _ (by omega) (by omega) (by omega) (by omega), vo _ (by omega) (by omega) (by omega) (by omega), vo _ (by omega) (by omega) (by omega) (by omega), vo _ (by omega) (by omega) (by omega) (by omega), vo _ (by omega) (by omega) (by omega) (by omega), vo _ (by omega) (by omega) (by omega) (by omega)]; exact I6 p p0 p1
theorem CI.per {n : Int} {R : Int → Int} {a b c : Int} (I : CI n R) (hn : n < 40) (z : ¬ R 0 = 0) (h4 : ¬ R 2 = 4) (ha : 0 ≤ a ∧ a ≤ R 0 - 1) (hb : 0 ≤ b ∧ b ≤ R 0 - 1) (hc : 0 ≤ c ∧ c ≤ 50) : CI (n + 1) (perR R a b c) := by
  obtain ⟨I0, I1, I2, I3, I4, I5, I6⟩ := I
  obtain ⟨v2, va, vb, vc, v3, v4, v5, vo⟩ := perR_v (a := a) (b := b) (c := c) (R := R) (by omega)
  have w0 := vo 0 (by omega) (by omega) (by omega) (by omega)
  have w1 := vo 1 (by omega) (by omega) (by omega) (by omega)
  have w3 := vo 3 (by omega) (by omega) (by omega) (by omega)
  have w4 := vo 4 (by omega) (by omega) (by omega) (by omega)
  have w5 := vo 5 (by omega) (by omega) (by omega) (by omega)
  unfold CI
  rw [v2, w0, w1, w3, w4, w5]
  refine ⟨by omega, by omega, I2, fun x x0 x1 => ?_, fun d d0 d1 => ?_, fun d e d0 d1 d2 => ?_, fun p p0 p1 => ?_⟩
  · rw [vo _ (by omega) (by omega) (by omega) (by omega)]; exact I3 x x0 x1
  · rw [vo _ (by omega) (by omega) (by omega) (by omega), vo _ (by omega) (by omega) (by omega) (by omega), vo _ (by omega) (by omega) (by omega) (by omega)]; exact I4 d d0 d1
  · rw [vo (42 + 3 * d) (by omega) (by omega) (by omega) (by omega), vo (42 + 3 * d + 1) (by omega) (by omega) (by omega) (by omega), vo (42 + 3 * e) (by omega) (by omega) (by omega) (by omega), vo (42 + 3 * e + 1) (by omega) (by omega) (by omega) (by omega)]; exact I5 d e d0 d1 d2
  · by_cases q : p = R 2
    · rw [q, va, vb, vc, v3, v4, v5]; omega
    · rw [vo _ (by omega) (by omega) (by omega) (by omega), vo _ (by omega) (by omega) (by omega) (by omega), vo _ (by omega) (by omega) (by omega) (by omega), vo _ (by omega) (by omega) (by omega) (by omega), vo _ (by omega) (by omega) (by omega) (by omega), vo _ (by omega) (by omega) (by omega) (by omega)]; exact I6 p p0 (by omega)
theorem fltR_n {f : Int} (h : ¬ f = 0) : ¬ (fltR f).1 = 0 := h
theorem CI.dorC {tp : Int → Int} {L j n w : Int} {R : Int → Int} (I : CI n R) (hn : n < 40) (z : ¬ R 0 = 0) (h0 : 0 ≤ j) (hj : j ≤ L) (h14 : ¬ R 1 = 14) (hw : w = 0 ∨ w = 1) (e : (cDor tp L j w R).1 = 0) : CI (n + 1) (cDor tp L j w R).2.2 ∧ 0 ≤ (cDor tp L j w R).2.1 ∧ (cDor tp L j w R).2.1 ≤ L := by
  unfold cDor at e ⊢
  obtain ⟨a1, a2, a3, a4, a5⟩ := nmc_0 h0 hj e
  rw [a4] at e ⊢
  obtain ⟨b1, b2, b3, b4, b5⟩ := nmc_0 a5.1 a5.2 e
  rw [b4]
  exact ⟨I.dor hn z h14 hw a2 b2 b3, b5⟩
theorem CI.cl {tp : Int → Int} {L j n : Int} {R : Int → Int} (I : CI n R) (h0 : 0 ≤ j) (hj : j ≤ L) (e : (cCl tp L j n R).1 = 0) : (CI (n + 1) (cCl tp L j n R).2.2 ∧ n < 40) ∧ 0 ≤ (cCl tp L j n R).2.1 ∧ (cCl tp L j n R).2.1 ≤ L := by
  unfold cCl at e ⊢
  by_cases c : kwP tp L j
  rotate_left
  · rw [pI_neg c] at e; exact absurd e (fltR_n (by omega))
  rw [pI_pos c] at e ⊢
  by_cases c2 : n = 40
  · rw [pI_pos c2] at e; exact absurd e (fltR_n (by omega))
  rw [pI_neg c2] at e ⊢
  have hn : n < 40 := by have := I.1; omega
  have nb := nx_b (tp := tp) h0 hj
  have n0 : 0 ≤ nx tp L j := by omega
  unfold cLin at e ⊢
  by_cases c3 : wc tp L j = wSc 0
  · rw [pI_pos c3] at e ⊢
    by_cases c4 : 0 < R 0
    · rw [pI_pos c4] at e; exact absurd e (fltR_n (by omega))
    rw [pI_neg c4] at e ⊢
    unfold cCas at e ⊢
    obtain ⟨a1, a2, a3, a4, a5⟩ := nmc_0 n0 nb.2.1 e
    rw [a4]
    exact ⟨⟨I.cas hn c4 a2, hn⟩, a5⟩
  rw [pI_neg c3] at e ⊢
  by_cases z : R 0 = 0
  · rw [pI_pos z] at e; exact absurd e (fltR_n (by omega))
  rw [pI_neg z] at e ⊢
  by_cases c4 : wc tp L j = wSc 1
  · rw [pI_pos c4] at e ⊢
    unfold cFar at e ⊢
    obtain ⟨a1, a2, a3, a4, a5⟩ := nmc_0 n0 nb.2.1 e
    rw [a4] at e ⊢
    obtain ⟨b1, b2, b3, b4, b5⟩ := nmc_0 a5.1 a5.2 e
    rw [b4]
    exact ⟨⟨I.far hn z a2 b2, hn⟩, b5⟩
  rw [pI_neg c4] at e ⊢
  by_cases c5 : wc tp L j = wSc 2
  · rw [pI_pos c5] at e ⊢
    by_cases c6 : R 1 = 14
    · rw [pI_pos c6] at e; exact absurd e (fltR_n (by omega))
    rw [pI_neg c6] at e ⊢
    have q := I.dorC hn z n0 nb.2.1 c6 (Or.inl rfl) e
    exact ⟨⟨q.1, hn⟩, q.2⟩
  rw [pI_neg c5] at e ⊢
  by_cases c6 : wc tp L j = wSc 3
  · rw [pI_pos c6] at e ⊢
    by_cases c7 : R 1 = 14
    · rw [pI_pos c7] at e; exact absurd e (fltR_n (by omega))
    rw [pI_neg c7] at e ⊢
    have q := I.dorC hn z n0 nb.2.1 c7 (Or.inr rfl) e
    exact ⟨⟨q.1, hn⟩, q.2⟩
  rw [pI_neg c6] at e ⊢
  by_cases c7 : wc tp L j = wSc 4
  · rw [pI_pos c7] at e ⊢
    by_cases c8 : 0 ≤ R 4
    · rw [pI_pos c8] at e; exact absurd e (fltR_n (by omega))
    rw [pI_neg c8] at e ⊢
    unfold cNig at e ⊢
    obtain ⟨a1, a2, a3, a4, a5⟩ := nmc_0 n0 nb.2.1 e
    rw [a4] at e ⊢
    obtain ⟨b1, b2, b3, b4, b5⟩ := nmc_0 a5.1 a5.2 e
    rw [b4]
    exact ⟨⟨I.nig hn z a2.1 b2, hn⟩, b5⟩
  rw [pI_neg c7] at e ⊢
  by_cases c8 : R 2 = 4
  · rw [pI_pos c8] at e; exact absurd e (fltR_n (by omega))
  rw [pI_neg c8] at e ⊢
  unfold cPer at e ⊢
  obtain ⟨a1, a2, a3, a4, a5⟩ := nmc_0 n0 nb.2.1 e
  rw [a4] at e ⊢
  obtain ⟨b1, b2, b3, b4, b5⟩ := nmc_0 a5.1 a5.2 e
  rw [b4] at e ⊢
  obtain ⟨d1, d2, d3, d4, d5⟩ := nmc_0 b5.1 b5.2 e
  rw [d4]
  exact ⟨⟨I.per hn z c8 a2 b2 d2, hn⟩, d5⟩
