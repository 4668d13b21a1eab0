/-! HEAPS AS THEY ARE MADE: how many cells, their shapes, references, what is known of ints and longs, slots. -/
abbrev ST : Type := Nat × (Nat → Nat × Nat) × (Nat → Nat → Option Nat) × (Nat → Nat → Option Int) × (Nat → Nat → Option Int64) × Nat
def HG (h : AH) (s : ST) : Prop := hn h = s.1 ∧ hs h = s.2.1 ∧ hR h = s.2.2.1 ∧ (∀ c k v, s.2.2.2.1 c k = some v → hI h c k = J v) ∧ (∀ c k v, s.2.2.2.2.1 c k = some v → hL h c k = v) ∧ hz h = s.2.2.2.2.2
def sA (s : ST) (t : Nat × Nat) (z : Nat) : ST := (s.1 + 1, va_up s.2.1 s.1 t, va_up s.2.2.1 s.1 (fun _ => none), va_up s.2.2.2.1 s.1 (fun _ => some 0), va_up s.2.2.2.2.1 s.1 (fun _ => some 0), s.2.2.2.2.2 + z)
def sR (s : ST) (a k : Nat) (x : Option Nat) : ST := (s.1, s.2.1, va_up s.2.2.1 a (va_up (s.2.2.1 a) k x), s.2.2.2)
def sI (s : ST) (a k : Nat) (v : Int) : ST := (s.1, s.2.1, s.2.2.1, va_up s.2.2.2.1 a (va_up (s.2.2.2.1 a) k (some v)), s.2.2.2.2)
def sF (s : ST) (a n : Nat) (v : Int) : ST := (s.1, s.2.1, s.2.2.1, va_up s.2.2.2.1 a (fun k => if k < n then some v else none), va_up s.2.2.2.2.1 a (fun _ => none), s.2.2.2.2.2)
def sX (s : ST) (a k t n z : Nat) : ST := sR (sA s (t, n) z) a k (some s.1)
theorem HG.al {h : AH} {s : ST} {t : Nat × Nat} {z : Nat} (H : HG h s) : HG (aN h t z) (sA s t z) := by
  obtain ⟨h1, h2, h3, h4, h5, h6⟩ := H
  refine ⟨by show hn h + 1 = s.1 + 1; rw [h1], by show va_up (hs h) (hn h) t = va_up s.2.1 s.1 t; rw [h1, h2], by show va_up (hR h) (hn h) (fun _ => none) = va_up s.2.2.1 s.1 (fun _ => none); rw [h1, h3], fun c k v e => ?_, fun c k v e => ?_, by show hz h + z = s.2.2.2.2.2 + z; rw [h6]⟩
  · have e : va_up s.2.2.2.1 s.1 (fun _ => some 0) c k = some v := e
    by_cases q : c = s.1
    · rw [q, va_up_self] at e
      rw [q, ← h1, hI_aN_eq]
      cases e; rfl
    · rw [va_up_ne _ _ q] at e
      rw [hI_aN_ne (by rw [h1]; exact q)]
      exact h4 c k v e
  · have e : va_up s.2.2.2.2.1 s.1 (fun _ => some 0) c k = some v := e
    by_cases q : c = s.1
    · rw [q, va_up_self] at e
      have : hL (aN h t z) (hn h) = fun _ => 0 := va_up_self _ _ _
      rw [q, ← h1, this]
      cases e; rfl
    · rw [va_up_ne _ _ q] at e
      rw [hL_aN_ne (by rw [h1]; exact q)]
      exact h5 c k v e
theorem HG.rw {h : AH} {s : ST} {a k : Nat} {x : Option Nat} (H : HG h s) : HG (wR h a k x) (sR s a k x) := by
  obtain ⟨h1, h2, h3, h4, h5, h6⟩ := H
  exact ⟨h1, h2, by show va_up (hR h) a (va_up (hR h a) k x) = va_up s.2.2.1 a (va_up (s.2.2.1 a) k x); rw [h3], h4, h5, h6⟩
theorem HG.it {h : AH} {s : ST} {a k : Nat} {x : Int32} {v : Int} (H : HG h s) (e : x = J v) : HG (wI h a k x) (sI s a k v) := by
  obtain ⟨h1, h2, h3, h4, h5, h6⟩ := H
  refine ⟨h1, h2, h3, fun c j w e' => ?_, h5, h6⟩
  have e' : va_up s.2.2.2.1 a (va_up (s.2.2.2.1 a) k (some v)) c j = some w := e'
  show va_up (hI h) a (va_up (hI h a) k x) c j = J w
  by_cases q : c = a
  · rw [q, va_up_self] at e' ⊢
    by_cases q2 : j = k
    · rw [q2, va_up_self] at e' ⊢
      cases e'; exact e
    · rw [va_up_ne _ _ q2] at e' ⊢
      exact h4 a j w e'
  · rw [va_up_ne _ _ q] at e' ⊢
    exact h4 c j w e'
theorem HG.fl {h h' : AH} {s : ST} {a n : Nat} {v : Int} (H : HG h s) (F : Fr (fun c2 _ => c2 = a) h h') (hn' : n ≤ 2147483648) (f : ∀ k : Int, 0 ≤ k → k < n → aI h' a k = v) : HG h' (sF s a n v) := by
  obtain ⟨h1, h2, h3, h4, h5, h6⟩ := H
  refine ⟨F.1.hn.trans h1, F.1.hs.trans h2, F.1.2.trans h3, fun c j w e' => ?_, fun c j w e' => ?_, F.1.hz.trans h6⟩
  · have e' : va_up s.2.2.2.1 a (fun k => if k < n then some v else none) c j = some w := e'
    by_cases q : c = a
    · rw [q, va_up_self] at e'
      by_cases l : j < n
      · have e' : (if j < n then some v else none) = some w := e'
        rw [if_pos l] at e'
        cases e'
        have := f j (by omega) (by omega)
        unfold aI at this
        rw [tn_eq (by omega), Int.toNat_natCast] at this
        rw [q, ← this, J_toInt]
      · have e' : (if j < n then some v else none) = some w := e'
        rw [if_neg l] at e'
        cases e'
    · rw [va_up_ne _ _ q] at e'
      rw [(F.2 c j q).1]
      exact h4 c j w e'
  · have e' : va_up s.2.2.2.2.1 a (fun _ => none) c j = some w := e'
    by_cases q : c = a
    · rw [q, va_up_self] at e'
      cases e'
    · rw [va_up_ne _ _ q] at e'
      rw [(F.2 c j q).2]
      exact h5 c j w e'
theorem sX_1 (s : ST) (a k t n z : Nat) : (sX s a k t n z).1 = s.1 + 1 := rfl
theorem sX_r {s : ST} {a k t n z j : Nat} (h : a < s.1) : (sX s a k t n z).2.2.1 a j = if j = k then some s.1 else s.2.2.1 a j := by
  show va_up (va_up s.2.2.1 s.1 (fun _ => none)) a (va_up (va_up s.2.2.1 s.1 (fun _ => none) a) k (some s.1)) a j = _
  rw [va_up_self]
  by_cases q : j = k
  · rw [if_pos q, q, va_up_self]
  · rw [if_neg q, va_up_ne _ _ q, va_up_ne _ _ (by omega)]
theorem sX_s {s : ST} {a k t n z c : Nat} : (sX s a k t n z).2.1 c = if c = s.1 then (t, n) else s.2.1 c := by
  show va_up s.2.1 s.1 (t, n) c = _
  by_cases q : c = s.1
  · rw [if_pos q, q, va_up_self]
  · rw [if_neg q, va_up_ne _ _ q]
/-- an object at a, of shape t0, being made -/
def CT (h : AH) (s : ST) (a : Nat) (t0 : Nat × Nat) : Prop := HG h s ∧ a < s.1 ∧ s.2.1 a = t0
theorem CT.x {h : AH} {s : ST} {a k t n z : Nat} {t0 : Nat × Nat} (C : CT h s a t0) : hs (aN h (t, n) z) a = t0 ∧ CT (wR (aN h (t, n) z) a k (some (hn h))) (sX s a k t n z) a t0 := by
  obtain ⟨H, la, ta⟩ := C
  have e1 := H.1
  have na : ¬ a = hn h := by omega
  refine ⟨by rw [hs_aN_ne na, H.2.1]; exact ta, ?_, by show a < s.1 + 1; omega, ?_⟩
  · have := (H.al (t := (t, n)) (z := z)).rw (a := a) (k := k) (x := some (hn h))
    rw [e1] at this ⊢
    exact this
  · show va_up s.2.1 s.1 (t, n) a = t0
    rw [va_up_ne _ _ (by omega)]; exact ta
def cPl0 (a : Nat) (s : ST) : ST := sX (sX (sX (sX (sX (sX (sX (sX (sX (sX s a 6 1 8 8) a 7 1 14 14) a 8 1 14 14) a 9 1 4 4) a 10 1 4 4) a 11 1 4 4) a 12 1 64 64) a 13 1 2 2) a 14 1 16 16) a 15 1 128 128
theorem cPl0_r {a : Nat} {s : ST} (sa : s.1 = a + 1) : ∀ j : Nat, (cPl0 a s).2.2.1 a j = if j = 15 then some (a + 10) else if j = 14 then some (a + 9) else if j = 13 then some (a + 8) else if j = 12 then some (a + 7) else if j = 11 then some (a + 6) else if j = 10 then some (a + 5) else if j = 9 then some (a + 4) else if j = 8 then some (a + 3) else if j = 7 then some (a + 2) else if j = 6 then some (a + 1) else s.2.2.1 a j := by
  intro j
  unfold cPl0
  rw [sX_r (by simp only [sX_1]; omega), sX_r (by simp only [sX_1]; omega), sX_r (by simp only [sX_1]; omega), sX_r (by simp only [sX_1]; omega), sX_r (by simp only [sX_1]; omega), sX_r (by simp only [sX_1]; omega), sX_r (by simp only [sX_1]; omega), sX_r (by simp only [sX_1]; omega), sX_r (by simp only [sX_1]; omega), sX_r (by omega)]
  simp only [sX_1, sa]
theorem cPl0_s {a : Nat} {s : ST} (sa : s.1 = a + 1) : ∀ c : Nat, (cPl0 a s).2.1 c = if c = a + 10 then (1, 128) else if c = a + 9 then (1, 16) else if c = a + 8 then (1, 2) else if c = a + 7 then (1, 64) else if c = a + 6 then (1, 4) else if c = a + 5 then (1, 4) else if c = a + 4 then (1, 4) else if c = a + 3 then (1, 14) else if c = a + 2 then (1, 14) else if c = a + 1 then (1, 8) else s.2.1 c := by
  intro c
  unfold cPl0
  rw [sX_s, sX_s, sX_s, sX_s, sX_s, sX_s, sX_s, sX_s, sX_s, sX_s]
  simp only [sX_1, sa]
def cPlan (a : Nat) (s : ST) : ST := sI (sI (sF (cPl0 a s) (a + 7) 64 (-1)) a 4 (-1)) a 5 (-1)
theorem v3_0 {X : Cst} {d : Nat} {a : Nat} {h : AH} {Q : Post}
  (w : Ex X PG (d + 1) 3 4 [some (.ref a)] [] h Q) :
    Ex X PG (d + 1) 3 0 [some (.ref a)] [] h Q := wpx_ok (cut := [4]) 2 d 3 0 _ _ _ _ w
theorem v3_4 {X : Cst} {d : Nat} {a : Nat} {h : AH} {Q : Post}
  (w : ¬ (8 : Int32) < 0 ∧ Int32.toNatClampNeg 8 ≤ 1000000 ∧ hs (aN h (1, Int32.toNatClampNeg 8) (Int32.toNatClampNeg 8)) a = (0, 2) ∧ Ex X PG (d + 1) 3 12 [some (.ref a)] [] (wR (aN h (1, Int32.toNatClampNeg 8) (Int32.toNatClampNeg 8)) a 6 (some (hn h))) Q) :
    Ex X PG (d + 1) 3 4 [some (.ref a)] [] h Q := wpx_ok (cut := [12]) 4 d 3 4 _ _ _ _ w
theorem v3_12 {X : Cst} {d : Nat} {a : Nat} {h : AH} {Q : Post}
  (w : ¬ (14 : Int32) < 0 ∧ Int32.toNatClampNeg 14 ≤ 1000000 ∧ hs (aN h (1, Int32.toNatClampNeg 14) (Int32.toNatClampNeg 14)) a = (0, 2) ∧ Ex X PG (d + 1) 3 20 [some (.ref a)] [] (wR (aN h (1, Int32.toNatClampNeg 14) (Int32.toNatClampNeg 14)) a 7 (some (hn h))) Q) :
    Ex X PG (d + 1) 3 12 [some (.ref a)] [] h Q := wpx_ok (cut := [20]) 4 d 3 12 _ _ _ _ w
theorem v3_20 {X : Cst} {d : Nat} {a : Nat} {h : AH} {Q : Post}
  (w : ¬ (14 : Int32) < 0 ∧ Int32.toNatClampNeg 14 ≤ 1000000 ∧ hs (aN h (1, Int32.toNatClampNeg 14) (Int32.toNatClampNeg 14)) a = (0, 2) ∧ Ex X PG (d + 1) 3 28 [some (.ref a)] [] (wR (aN h (1, Int32.toNatClampNeg 14) (Int32.toNatClampNeg 14)) a 8 (some (hn h))) Q) :
    Ex X PG (d + 1) 3 20 [some (.ref a)] [] h Q := wpx_ok (cut := [28]) 4 d 3 20 _ _ _ _ w
theorem v3_28 {X : Cst} {d : Nat} {a : Nat} {h : AH} {Q : Post}
  (w : ¬ (4 : Int32) < 0 ∧ Int32.toNatClampNeg 4 ≤ 1000000 ∧ hs (aN h (1, Int32.toNatClampNeg 4) (Int32.toNatClampNeg 4)) a = (0, 2) ∧ Ex X PG (d + 1) 3 35 [some (.ref a)] [] (wR (aN h (1, Int32.toNatClampNeg 4) (Int32.toNatClampNeg 4)) a 9 (some (hn h))) Q) :
    Ex X PG (d + 1) 3 28 [some (.ref a)] [] h Q := wpx_ok (cut := [35]) 4 d 3 28 _ _ _ _ w
theorem v3_35 {X : Cst} {d : Nat} {a : Nat} {h : AH} {Q : Post}
  (w : ¬ (4 : Int32) < 0 ∧ Int32.toNatClampNeg 4 ≤ 1000000 ∧ hs (aN h (1, Int32.toNatClampNeg 4) (Int32.toNatClampNeg 4)) a = (0, 2) ∧ Ex X PG (d + 1) 3 42 [some (.ref a)] [] (wR (aN h (1, Int32.toNatClampNeg 4) (Int32.toNatClampNeg 4)) a 10 (some (hn h))) Q) :
    Ex X PG (d + 1) 3 35 [some (.ref a)] [] h Q := wpx_ok (cut := [42]) 4 d 3 35 _ _ _ _ w
theorem v3_42 {X : Cst} {d : Nat} {a : Nat} {h : AH} {Q : Post}
  (w : ¬ (4 : Int32) < 0 ∧ Int32.toNatClampNeg 4 ≤ 1000000 ∧ hs (aN h (1, Int32.toNatClampNeg 4) (Int32.toNatClampNeg 4)) a = (0, 2) ∧ Ex X PG (d + 1) 3 49 [some (.ref a)] [] (wR (aN h (1, Int32.toNatClampNeg 4) (Int32.toNatClampNeg 4)) a 11 (some (hn h))) Q) :
    Ex X PG (d + 1) 3 42 [some (.ref a)] [] h Q := wpx_ok (cut := [49]) 4 d 3 42 _ _ _ _ w
theorem v3_49 {X : Cst} {d : Nat} {a : Nat} {h : AH} {Q : Post}
  (w : ¬ (64 : Int32) < 0 ∧ Int32.toNatClampNeg 64 ≤ 1000000 ∧ hs (aN h (1, Int32.toNatClampNeg 64) (Int32.toNatClampNeg 64)) a = (0, 2) ∧ Ex X PG (d + 1) 3 57 [some (.ref a)] [] (wR (aN h (1, Int32.toNatClampNeg 64) (Int32.toNatClampNeg 64)) a 12 (some (hn h))) Q) :
    Ex X PG (d + 1) 3 49 [some (.ref a)] [] h Q := wpx_ok (cut := [57]) 4 d 3 49 _ _ _ _ w
theorem v3_57 {X : Cst} {d : Nat} {a : Nat} {h : AH} {Q : Post}
  (w : ¬ (2 : Int32) < 0 ∧ Int32.toNatClampNeg 2 ≤ 1000000 ∧ hs (aN h (1, Int32.toNatClampNeg 2) (Int32.toNatClampNeg 2)) a = (0, 2) ∧ Ex X PG (d + 1) 3 64 [some (.ref a)] [] (wR (aN h (1, Int32.toNatClampNeg 2) (Int32.toNatClampNeg 2)) a 13 (some (hn h))) Q) :
    Ex X PG (d + 1) 3 57 [some (.ref a)] [] h Q := wpx_ok (cut := [64]) 4 d 3 57 _ _ _ _ w
theorem v3_64 {X : Cst} {d : Nat} {a : Nat} {h : AH} {Q : Post}
  (w : ¬ (16 : Int32) < 0 ∧ Int32.toNatClampNeg 16 ≤ 1000000 ∧ hs (aN h (1, Int32.toNatClampNeg 16) (Int32.toNatClampNeg 16)) a = (0, 2) ∧ Ex X PG (d + 1) 3 72 [some (.ref a)] [] (wR (aN h (1, Int32.toNatClampNeg 16) (Int32.toNatClampNeg 16)) a 14 (some (hn h))) Q) :
    Ex X PG (d + 1) 3 64 [some (.ref a)] [] h Q := wpx_ok (cut := [72]) 4 d 3 64 _ _ _ _ w
theorem v3_72 {X : Cst} {d : Nat} {a : Nat} {h : AH} {Q : Post}
  (w : ¬ (128 : Int32) < 0 ∧ Int32.toNatClampNeg 128 ≤ 1000000 ∧ hs (aN h (1, Int32.toNatClampNeg 128) (Int32.toNatClampNeg 128)) a = (0, 2) ∧ Ex X PG (d + 1) 3 81 [some (.ref a)] [] (wR (aN h (1, Int32.toNatClampNeg 128) (Int32.toNatClampNeg 128)) a 15 (some (hn h))) Q) :
    Ex X PG (d + 1) 3 72 [some (.ref a)] [] h Q := wpx_ok (cut := [81]) 4 d 3 72 _ _ _ _ w
theorem v3_81 {X : Cst} {d : Nat} {a : Nat} {h : AH} {Q : Post}
  (w : hs h a = (0, 2) ∧ ∃ q1, hR h a 12 = some q1 ∧ Ex X PG d 4 0 [some (.ref q1), some (.int (-1)), none, none] [] h (fun v2 h3 => v2 = none ∧
      hs h3 a = (0, 2) ∧ hs (wI h3 a 4 (-1)) a = (0, 2) ∧ Q none (wI (wI h3 a 4 (-1)) a 5 (-1)))) :
    Ex X PG (d + 1) 3 81 [some (.ref a)] [] h Q := wpx_ok (cut := []) 11 d 3 81 _ _ _ _ w
theorem tc8 : Int32.toNatClampNeg 8 = 8 ∧ Int32.toNatClampNeg 14 = 14 ∧ Int32.toNatClampNeg 4 = 4 ∧ Int32.toNatClampNeg 64 = 64 ∧ Int32.toNatClampNeg 2 = 2 ∧ Int32.toNatClampNeg 16 = 16 ∧ Int32.toNatClampNeg 128 = 128 := by decide
theorem v4_0 {X : Cst} {d : Nat} {a0 : Nat} {x1 : Int32} {h : AH} {Q : Post}
  (w : 1 ≤ (hs h a0).1 ∧ Ex X PG (d + 1) 4 5 [some (.ref a0), some (.int x1), some (.int 0), some (.int (nI (hs h a0).2))] [] h Q) :
    Ex X PG (d + 1) 4 0 [some (.ref a0), some (.int x1), none, none] [] h Q := wpx_ok (cut := [5]) 5 d 4 0 _ _ _ _ w
theorem v4_5 {X : Cst} {d : Nat} {a0 : Nat} {x1 : Int32} {x2 : Int32} {x3 : Int32} {h : AH} {Q : Post}
  (w : ((x3 ≤ x2 →
      Q none h) ∧
    (¬ (x3 ≤ x2) →
      (hs h a0).1 = 1 ∧ ix x2 (hs h a0).2 ∧ Ex X PG (d + 1) 4 5 [some (.ref a0), some (.int x1), some (.int (x2 + 1)), some (.int x3)] [] (wI h a0 (Int32.toNatClampNeg x2) x1) Q))) :
    Ex X PG (d + 1) 4 5 [some (.ref a0), some (.int x1), some (.int x2), some (.int x3)] [] h Q := wpx_ok (cut := [5]) 9 d 4 5 _ _ _ _ w
theorem m4v {X : Cst} {d : Nat} {c n : Nat} {v : Int} {h : AH} {Q : Post} (Sh : hs h c = (1, n)) (hn : n ≤ 2147483647) (hd : 1 ≤ d) (hv : -2147483648 ≤ v ∧ v < 2147483648)
    (k : ∀ h', Fr (fun c2 _ => c2 = c) h h' → (∀ k : Int, 0 ≤ k → k < (n : Int) → aI h' c k = v) → Q none h') : Ex X PG d 4 0 [some (.ref c), some (.int (J v)), none, none] [] h Q := by
  obtain ⟨d, rfl⟩ : ∃ e, d = e + 1 := ⟨d - 1, by omega⟩
  have lp : ∀ (m : Nat) (i : Int) (h' : AH), Fr (fun c2 _ => c2 = c) h h' → (n : Int) - i = m → 0 ≤ i → (∀ k : Int, 0 ≤ k → k < i → aI h' c k = v) → Ex X PG (d + 1) 4 5 [some (.ref c), some (.int (J v)), some (.int (J i)), some (.int (J (n : Int)))] [] h' Q := by
    intro m
    induction m with
    | zero =>
      intro i h' F h1 h2 h3
      refine v4_5 ⟨fun _ => k h' F (fun j a b => h3 j a (by omega)), fun z => absurd ?_ z⟩
      rw [Jle (by omega) (by omega)]; omega
    | succ m ih =>
      intro i h' F h1 h2 h3
      have S' : hs h' c = (1, n) := by rw [F.1.hs]; exact Sh
      refine v4_5 ⟨fun z => ?_, fun _ => ⟨by rw [S'], ixs S' (by omega) (by omega), ?_⟩⟩
      · rw [Jle (by omega) (by omega)] at z; omega
      · rw [show (1 : Int32) = J 1 from rfl, J_add]
        have : Fr (fun c2 _ => c2 = c) h (wA h' c i v) := F.wA rfl
        refine ih (i + 1) (wA h' c i v) this (by omega) (by omega) (fun j a b => ?_)
        rw [aI_wA hv]
        by_cases q : j = i
        · rw [q, uu_eq]
        · rw [uu_ne (by omega) (by omega) q]; exact h3 j a (by omega)
  refine v4_0 ⟨by rw [Sh]; exact Nat.le_refl 1, ?_⟩
  rw [Sh, J_nI]
  exact lp n 0 h Fr.rf (by omega) (by omega) (fun j a b => by omega)
theorem m3c {X : Cst} {d a : Nat} {s : ST} {h : AH} {Q : Post} (hd : 2 ≤ d) (C : CT h s a (0, 2)) (sa : s.1 = a + 1) (k : ∀ h', HG h' (cPlan a s) → Q none h') : Ex X PG d 3 0 [some (.ref a)] [] h Q := by
  obtain ⟨d, rfl⟩ : ∃ e, d = e + 1 := ⟨d - 1, by omega⟩
  obtain ⟨t8, t14, t4, t64, t2, t16, t128⟩ := tc8
  refine v3_0 (v3_4 ?_)
  rw [t8]
  refine ⟨by decide, by decide, (C.x (k := 6)).1, v3_12 ?_⟩
  rw [t14]
  have C := (C.x (t := 1) (n := 8) (z := 8) (k := 6)).2
  refine ⟨by decide, by decide, (C.x (k := 7)).1, v3_20 ?_⟩
  rw [t14]
  have C := (C.x (t := 1) (n := 14) (z := 14) (k := 7)).2
  refine ⟨by decide, by decide, (C.x (k := 8)).1, v3_28 ?_⟩
  rw [t4]
  have C := (C.x (t := 1) (n := 14) (z := 14) (k := 8)).2
  refine ⟨by decide, by decide, (C.x (k := 9)).1, v3_35 ?_⟩
  rw [t4]
  have C := (C.x (t := 1) (n := 4) (z := 4) (k := 9)).2
  refine ⟨by decide, by decide, (C.x (k := 10)).1, v3_42 ?_⟩
  rw [t4]
  have C := (C.x (t := 1) (n := 4) (z := 4) (k := 10)).2
  refine ⟨by decide, by decide, (C.x (k := 11)).1, v3_49 ?_⟩
  rw [t64]
  have C := (C.x (t := 1) (n := 4) (z := 4) (k := 11)).2
  refine ⟨by decide, by decide, (C.x (k := 12)).1, v3_57 ?_⟩
  rw [t2]
  have C := (C.x (t := 1) (n := 64) (z := 64) (k := 12)).2
  refine ⟨by decide, by decide, (C.x (k := 13)).1, v3_64 ?_⟩
  rw [t16]
  have C := (C.x (t := 1) (n := 2) (z := 2) (k := 13)).2
  refine ⟨by decide, by decide, (C.x (k := 14)).1, v3_72 ?_⟩
  rw [t128]
  have C := (C.x (t := 1) (n := 16) (z := 16) (k := 14)).2
  refine ⟨by decide, by decide, (C.x (k := 15)).1, v3_81 ?_⟩
  have C := (C.x (t := 1) (n := 128) (z := 128) (k := 15)).2
  have C0 : CT _ (cPl0 a s) a (0, 2) := C
  have H := C0.1
  have hs7 : (cPl0 a s).2.1 (a + 7) = (1, 64) := by rw [cPl0_s sa, if_neg (by omega), if_neg (by omega), if_neg (by omega), if_pos rfl]
  have hr12 : (cPl0 a s).2.2.1 a 12 = some (a + 7) := by rw [cPl0_r sa, if_neg (by decide), if_neg (by decide), if_neg (by decide), if_pos rfl]
  refine ⟨(congrFun H.2.1 a).trans C0.2.2, a + 7, (congrFun (congrFun H.2.2.1 a) 12).trans hr12, ?_⟩
  refine m4v (n := 64) (v := -1) ((congrFun H.2.1 (a + 7)).trans hs7) (by omega) (by omega) (by omega) (fun h3 F3 f3 => ?_)
  have H3 := H.fl F3 (by omega) f3
  have s3 : hs h3 a = (0, 2) := by rw [F3.1.hs]; exact (congrFun H.2.1 a).trans C0.2.2
  exact ⟨rfl, s3, s3, k _ ((H3.it (a := a) (k := 4) (x := -1) (v := -1) rfl).it (a := a) (k := 5) (x := -1) (v := -1) rfl)⟩
