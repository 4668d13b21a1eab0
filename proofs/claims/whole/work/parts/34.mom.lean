/-! A MOMENT, as a function of said and of the doors that people will. -/
noncomputable def cnt (P : Int → Prop) (i : Int) : Int := sumN i.toNat fun o => bI (P o)
theorem cnt_0 (P : Int → Prop) : cnt P 0 = 0 := rfl
theorem cnt_s (P : Int → Prop) {i : Int} (h : 0 ≤ i) : cnt P (i + 1) = cnt P i + bI (P i) := by
  unfold cnt
  rw [show (i + 1).toNat = i.toNat + 1 by omega]
  show _ + bI (P (i.toNat : Int)) = _
  rw [show (i.toNat : Int) = i by omega]
theorem cnt_b (P : Int → Prop) {i : Int} (h : 0 ≤ i) : 0 ≤ cnt P i ∧ cnt P i ≤ i := by
  have := sumN_bI_b P i.toNat
  unfold cnt; omega
theorem cnt_le (P : Int → Prop) {i j : Int} (h : 0 ≤ i) (l : i ≤ j) : cnt P i ≤ cnt P j := by
  obtain ⟨n, e⟩ : ∃ n : Nat, j = i + n := ⟨(j - i).toNat, by omega⟩
  subst e
  clear l
  induction n with
  | zero => rw [show i + ((0 : Nat) : Int) = i by omega]; exact Int.le_refl _
  | succ n ih =>
    have := cnt_s P (i := i + n) (by omega)
    rw [show i + ((n + 1 : Nat) : Int) = i + n + 1 by omega, this]
    have := bI_or (P (i + n))
    omega
theorem cnt_lt {P : Int → Prop} {i j : Int} (h : 0 ≤ i) (l : i < j) (p : P i) : cnt P i < cnt P j := by
  have a := cnt_le P (i := i + 1) (j := j) (by omega) (by omega)
  rw [cnt_s P h, bI_pos p] at a
  omega
theorem cnt_uniq {P : Int → Prop} {i j : Int} (hi : 0 ≤ i) (hj : 0 ≤ j) (pi : P i) (pj : P j) (e : cnt P i = cnt P j) : i = j := by
  by_cases a : i < j
  · have := cnt_lt hi a pi; omega
  · by_cases b : j < i
    · have := cnt_lt hj b pj; omega
    · omega
theorem cnt_find {P : Int → Prop} {k : Int} (hk : 0 ≤ k) : ∀ (n : Nat), k < cnt P n → ∃ q : Int, 0 ≤ q ∧ q < n ∧ P q ∧ cnt P q = k := by
  intro n
  induction n with
  | zero => intro h; rw [show ((0 : Nat) : Int) = 0 from rfl, cnt_0] at h; omega
  | succ n ih =>
    intro h
    by_cases a : k < cnt P n
    · obtain ⟨q, h1, h2, h3⟩ := ih a
      exact ⟨q, h1, by omega, h3⟩
    · have e := cnt_s P (i := (n : Int)) (by omega)
      rw [show ((n + 1 : Nat) : Int) = (n : Int) + 1 by omega, e] at h
      have b := bI_or (P n)
      refine ⟨n, by omega, by omega, ?_, by omega⟩
      by_cases c : P n
      · exact c
      · rw [bI_neg c] at h; omega
noncomputable def kth (P : Int → Prop) (n k : Int) : Int := lst fun q => q < n ∧ P q ∧ cnt P q = k
theorem kth_eq {P : Int → Prop} {n k q : Int} (h0 : 0 ≤ q) (h1 : q < n) (h2 : P q) (h3 : cnt P q = k) : kth P n k = q :=
  lst_eq h0 ⟨h1, h2, h3⟩ fun u hu z => by rw [cnt_uniq h0 hu h2 z.2.1 (by omega)]; exact Int.le_refl _
theorem kth_no {P : Int → Prop} {n k : Int} (h : cnt P n ≤ k) : kth P n k = -1 :=
  lst_no fun u hu z => by have := cnt_lt hu z.1 z.2.1; omega
theorem kth_or (P : Int → Prop) {n k : Int} (hn : 0 ≤ n) (hk : 0 ≤ k) : (kth P n k = -1 ∧ cnt P n ≤ k) ∨ (0 ≤ kth P n k ∧ kth P n k < n ∧ P (kth P n k) ∧ cnt P (kth P n k) = k) := by
  by_cases h : k < cnt P n
  · rw [show n = ((n.toNat : Nat) : Int) by omega] at h
    obtain ⟨q, h1, h2, h3, h4⟩ := cnt_find hk _ h
    rw [kth_eq h1 (by omega) h3 h4]
    exact Or.inr ⟨h1, by omega, h3, h4⟩
  · exact Or.inl ⟨kth_no (by omega), by omega⟩
/-- who goes out; who wills to come in by a door; who goes out by it -/
def gO (S D : Int → Int) (p : Int) : Prop := 0 ≤ D p ∧ nr S (D p) = pS S p 0
def inB (S D : Int → Int) (d q : Int) : Prop := D q = d ∧ ¬ gO S D q
def ouB (S D : Int → Int) (d q : Int) : Prop := D q = d ∧ gO S D q
noncomputable def rnk (S D : Int → Int) (p : Int) : Int := cnt (inB S D (D p)) p
noncomputable def byw (S D : Int → Int) (p : Int) : Int := kth (ouB S D (D p)) (S 2) (rnk S D p)
def cmI (S D : Int → Int) (p : Int) : Prop := 0 ≤ D p ∧ ¬ gO S D p ∧ 0 ≤ byw S D p
/-- a person's cells, when those of K have come in -/
noncomputable def pcl (S D : Int → Int) (K : Int → Prop) (p w : Int) : Int :=
  if w = 0 then @ite Int (gO S D p) (Classical.propDecidable _) (fr S (D p)) (@ite Int (K p) (Classical.propDecidable _) (nr S (D p)) (pS S p 0))
  else if w = 3 then pS S p 3 + bI (K p) else if w = 4 then pS S p 4 + bI (gO S D p)
  else if w = 5 then @ite Int (K p) (Classical.propDecidable _) (byw S D p) (pS S p 5) else pS S p w
/-- all people's cells by f, MOMENT m, the rest as in S -/
def lay6 (S : Int → Int) (f : Int → Int → Int) (m : Int) : Int → Int := fun k =>
  if tn k = 3 then m else if 10 ≤ tn k ∧ ((tn k : Nat) : Int) < 10 + 6 * S 2 then f (((tn k : Nat) : Int) - 10) ((((tn k : Nat) : Int) - 10) % 6) else S k
noncomputable def mom (S D : Int → Int) : Int → Int := lay6 S (fun j w => pcl S D (cmI S D) (j / 6) w) (S 3 + 1)
noncomputable def momN (S D : Int → Int) : Int := cnt (gO S D) (S 2) + cnt (cmI S D) (S 2)
theorem tn_self {k : Int} (h : 0 ≤ k ∧ k < 2147483648) : ((tn k : Nat) : Int) = k := by rw [tn_eq ⟨by omega, h.2⟩]; omega
theorem mom_p {S D : Int → Int} {p w : Int} (h2 : S 2 ≤ 4) (hp : 0 ≤ p ∧ p < S 2) (hw : 0 ≤ w ∧ w < 6) : pS (mom S D) p w = pcl S D (cmI S D) p w := by
  unfold pS mom lay6
  have e : ((tn (10 + 6 * p + w) : Nat) : Int) = 10 + 6 * p + w := tn_self (by omega)
  have t : tn (10 + 6 * p + w) = (10 + 6 * p + w).toNat := tn_eq (by omega)
  rw [if_neg (by omega), if_pos ⟨by omega, by omega⟩, e]
  show pcl S D (cmI S D) ((10 + 6 * p + w - 10) / 6) ((10 + 6 * p + w - 10) % 6) = _
  rw [show (10 + 6 * p + w - 10) / 6 = p by omega, show (10 + 6 * p + w - 10) % 6 = w by omega]
theorem mom_3 {S D : Int → Int} : mom S D 3 = S 3 + 1 := by
  unfold mom lay6
  exact if_pos rfl
theorem mom_k {S D : Int → Int} {k : Int} (h : 0 ≤ k ∧ k < 2147483648) (h3 : ¬ k = 3) (hp : k < 10 ∨ 10 + 6 * S 2 ≤ k) : mom S D k = S k := by
  unfold mom lay6
  have e : ((tn k : Nat) : Int) = k := tn_self h
  rw [if_neg (by omega), if_neg (by omega)]
theorem pcl_cong {S D : Int → Int} {K L : Int → Prop} {p w : Int} (h : K p ↔ L p) : pcl S D K p w = pcl S D L p w := by
  unfold pcl
  rw [propext h]
theorem tn_b (k : Int) : tn k < 2147483648 := Int32.toNatClampNeg_lt (J k)
/-- two arrays that see their places alone are one if they are one there -/
def Tn (S : Int → Int) : Prop := ∀ k, S k = S ((tn k : Nat) : Int)
theorem Tn_aI (h : AH) (c : Nat) : Tn (aI h c) := by
  intro k
  unfold aI
  have : tn ((tn k : Nat) : Int) = tn k := by
    rw [tn_eq ⟨by omega, by have := tn_b k; omega⟩]; omega
  rw [this]
theorem Tn_lay6 {S : Int → Int} {f : Int → Int → Int} {m : Int} (h : Tn S) : Tn (lay6 S f m) := by
  intro k
  unfold lay6
  have : tn ((tn k : Nat) : Int) = tn k := by
    rw [tn_eq ⟨by omega, by have := tn_b k; omega⟩]; omega
  rw [this, ← h k]
theorem Tn.ext {S R : Int → Int} (a : Tn S) (b : Tn R) (h : ∀ k, 0 ≤ k → k < 2147483648 → S k = R k) : S = R := by
  funext k
  rw [a k, b k]
  exact h _ (by omega) (by have := tn_b k; omega)
/-- what said keeps in a MOMENT -/
theorem mom_WF {N : Int} {S D : Int → Int} (W : WF N S) (hD : ∀ p, 0 ≤ p → p < S 2 → D p = -1 ∨ (0 ≤ D p ∧ D p < S 1)) : WF (N + 1) (mom S D) := by
  obtain ⟨b, wp, wf, wdd, wu, wnn, wt⟩ := W
  unfold WFb at b
  have k : ∀ k, 0 ≤ k → k < 123 → ¬ k = 3 → (k < 10 ∨ 34 ≤ k) → mom S D k = S k := fun k h1 h2 h3 h4 => mom_k ⟨h1, by omega⟩ h3 (by omega)
  have e0 := k 0 (by omega) (by omega) (by omega) (by omega)
  have e1 := k 1 (by omega) (by omega) (by omega) (by omega)
  have e2 := k 2 (by omega) (by omega) (by omega) (by omega)
  have e4 := k 4 (by omega) (by omega) (by omega) (by omega)
  have e5 := k 5 (by omega) (by omega) (by omega) (by omega)
  have ef : ∀ r, 0 ≤ r → r < 8 → mom S D (34 + r) = S (34 + r) := fun r h1 h2 => k _ (by omega) (by omega) (by omega) (by omega)
  have en : ∀ d, 0 ≤ d → d < S 1 → nr (mom S D) d = nr S d ∧ fr (mom S D) d = fr S d ∧ wn (mom S D) d = wn S d := fun d h1 h2 => ⟨k _ (by omega) (by omega) (by omega) (by omega), k _ (by omega) (by omega) (by omega) (by omega), k _ (by omega) (by omega) (by omega) (by omega)⟩
  refine ⟨?_, ?_, ?_, ?_, ?_, ?_, ?_⟩
  · unfold WFb
    rw [e0, e1, e2, e4, e5, mom_3]
    omega
  · intro p h1 h2
    rw [e2] at h2
    rw [e0]
    have pp := wp p h1 h2
    rw [mom_p b.2.2.2.2.2.1 ⟨h1, h2⟩ (by decide), mom_p b.2.2.2.2.2.1 ⟨h1, h2⟩ (by decide), mom_p b.2.2.2.2.2.1 ⟨h1, h2⟩ (by decide), mom_p b.2.2.2.2.2.1 ⟨h1, h2⟩ (by decide), mom_p b.2.2.2.2.2.1 ⟨h1, h2⟩ (by decide), mom_p b.2.2.2.2.2.1 ⟨h1, h2⟩ (by decide)]
    have o1 := bI_or (cmI S D p)
    have o2 := bI_or (gO S D p)
    have r0 : 0 ≤ pcl S D (cmI S D) p 0 ∧ pcl S D (cmI S D) p 0 < S 0 := by
      unfold pcl
      rw [if_pos rfl]
      rcases hD p h1 h2 with q | q
      · rw [if_neg (fun z => by have := z.1; omega), if_neg (fun z => by have := z.1; omega)]; omega
      · have dd := wdd (D p) q.1 q.2
        split
        · omega
        · split <;> omega
    have r5 : -1 ≤ pcl S D (cmI S D) p 5 ∧ pcl S D (cmI S D) p 5 < 4 := by
      unfold pcl
      rw [if_neg (by decide), if_neg (by decide), if_neg (by decide), if_pos rfl]
      split
      · have := lst_b (P := fun q => q < S 2 ∧ ouB S D (D p) q ∧ cnt (ouB S D (D p)) q = rnk S D p) (n := S 2) (by omega) (fun v z => z.1)
        unfold byw kth; omega
      · omega
    refine ⟨r0.1, r0.2, ?_⟩
    refine ⟨?_, ?_, ?_, ?_, ?_, ?_, ?_, ?_, r5.1, r5.2⟩ <;> (unfold pcl; simp only [show ¬ (1 : Int) = 0 by decide, show ¬ (1 : Int) = 3 by decide, show ¬ (1 : Int) = 4 by decide, show ¬ (1 : Int) = 5 by decide, show ¬ (2 : Int) = 0 by decide, show ¬ (2 : Int) = 3 by decide, show ¬ (2 : Int) = 4 by decide, show ¬ (2 : Int) = 5 by decide, show ¬ (3 : Int) = 0 by decide, show ¬ (4 : Int) = 0 by decide, show ¬ (4 : Int) = 3 by decide, if_false, if_true]; omega)
  · intro r h1 h2; rw [ef r h1 h2]; exact wf r h1 h2
  · intro d h1 h2
    rw [e1] at h2
    have q := en d h1 h2
    have dd := wdd d h1 h2
    rw [q.1, q.2.1, q.2.2, e0, ef _ dd.1 (by omega), ef _ dd.2.2.1 (by omega)]
    exact dd
  · intro d e h1 h2 h3 h4
    rw [e1] at h2 h4
    rw [(en d h1 h2).1, (en e h3 h4).1, (en d h1 h2).2.1, (en e h3 h4).2.1]
    exact wu d e h1 h2 h3 h4
  · have q : mom S D 114 = S 114 := k _ (by omega) (by omega) (by omega) (by omega)
    refine ⟨by rw [q]; exact wnn.1, by rw [q]; exact wnn.2.1, fun j h1 h2 => ?_⟩
    rw [q] at h2
    have l := wnn.2.1
    rw [e0, e2, k (84 + 3 * j) (by omega) (by omega) (by omega) (by omega), k (84 + 3 * j + 1) (by omega) (by omega) (by omega) (by omega), k (84 + 3 * j + 2) (by omega) (by omega) (by omega) (by omega)]
    exact wnn.2.2 j h1 h2
  · intro p h1 h2
    rw [e2] at h2
    rw [e0, k (115 + 2 * p) (by omega) (by omega) (by omega) (by omega), k (115 + 2 * p + 1) (by omega) (by omega) (by omega) (by omega)]
    exact wt p h1 h2
