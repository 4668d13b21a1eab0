/-! THE CLASS's reader of castles. -/
/-- x and y are the rooms of door d -/
def dpr (R : Int → Int) (d x y : Int) : Prop := (R (42 + 3 * d) = x ∧ R (42 + 3 * d + 1) = y) ∨ (R (42 + 3 * d) = y ∧ R (42 + 3 * d + 1) = x)
def BtW (R : Int → Int) (v x y : Int) : Prop := (v = -1 ∧ ∀ d, 0 ≤ d → d < R 1 → ¬ dpr R d x y) ∨ ((0 ≤ v ∧ v < R 1) ∧ dpr R v x y)
/-- the plan at a as it is being read: the cells R -/
def PlanRd (h : AH) (a : Nat) (R : Int → Int) : Prop :=
  (fI h a 0 = R 0 ∧ fI h a 1 = R 1 ∧ fI h a 2 = R 2 ∧ fI h a 4 = R 4 ∧ fI h a 5 = R 5) ∧
  (0 ≤ fI h a 3 ∧ fI h a 3 < 16384 ∧ ∀ d, 0 ≤ d → d < 14 → (bt (fI h a 3) d ↔ d < R 1 ∧ R (42 + 3 * d + 2) = 1)) ∧
  (∀ r, 0 ≤ r → r < 8 → aI h (a + 1) r = R (34 + r)) ∧
  (∀ d, 0 ≤ d → d < R 1 → aI h (a + 2) d = R (42 + 3 * d) ∧ aI h (a + 3) d = R (42 + 3 * d + 1)) ∧
  (∀ p, 0 ≤ p → p < R 2 → aI h (a + 4) p = R (10 + 6 * p) ∧ aI h (a + 5) p = R (10 + 6 * p + 1) ∧ aI h (a + 6) p = R (10 + 6 * p + 2)) ∧
  (∀ x y, 0 ≤ x → x < 8 → 0 ≤ y → y < 8 → BtW R (aI h (a + 7) (x * 8 + y)) x y)
theorem PlanRd.fr {T : Nat → Nat → Prop} {h h' : AH} {a : Nat} {R : Int → Int} (P : PlanRd h a R) (F : Fr T h h') (n : ∀ c k, T c k → c < a ∨ a + 10 < c) : PlanRd h' a R := by
  have x : ∀ i, i ≤ 10 → aI h' (a + i) = aI h (a + i) := fun i hi => F.a (a + i) (fun k z => by have := n _ _ z; omega)
  have f : ∀ k, fI h' a k = fI h a k := fun k => F.f a k (fun z => by have := n _ _ z; omega)
  unfold PlanRd
  rw [f 0, f 1, f 2, f 3, f 4, f 5, x 1 (by omega), x 2 (by omega), x 3 (by omega), x 4 (by omega), x 5 (by omega), x 6 (by omega), x 7 (by omega)]
  exact P
def TPl (a c _k : Nat) : Prop := a ≤ c ∧ c ≤ a + 10
def TCp (a c k : Nat) : Prop := TTf c k ∨ (a ≤ c ∧ c ≤ a + 10)
theorem TPl_c {a c k : Nat} (z : TPl a c k) : TCp a c k := Or.inr z
theorem TTf_c {a c k : Nat} (z : TTf c k) : TCp a c k := Or.inl z
def CQ (h : AH) (a : Nat) (tp : Int → Int) (L : Int) (r : RS) (Q : Post) : Prop := (r.1 = 0 → ∀ h', Fr (TCp a) h h' → TkC h' tp L r.2.1 0 → PlanRd h' a r.2.2 → Q none h') ∧ (¬ r.1 = 0 → ∀ h' j', Fr (TCp a) h h' → TkC h' tp L j' r.1 → Q none h')
theorem CQ.mo {h h2 : AH} {a : Nat} {tp : Int → Int} {L : Int} {r : RS} {Q : Post} (k : CQ h a tp L r Q) (F : Fr (TCp a) h h2) : CQ h2 a tp L r Q := ⟨fun e h' F' => k.1 e h' (F.tr F'), fun e h' j' F' => k.2 e h' j' (F.tr F')⟩
theorem nob0 (v : Int) (h0 : 0 ≤ v) (h1 : v < 31) : iand (shr 0 (iand v 31)) 1 = 1 ↔ noB v := by
  have a : ∀ n : Nat, n < 31 → iand (shr 0 (iand (n : Int) 31)) 1 = 0 := by decide +kernel
  have b := a v.toNat (by omega)
  rw [show ((v.toNat : Nat) : Int) = v by omega] at b
  rw [b]
  exact ⟨fun z => absurd z (by decide), fun z => z.elim⟩
/-- a number taken where nothing is barred -/
theorem m35n {X : Cst} {d : Nat} {L j f lo hi : Int} {tp : Int → Int} {h : AH} {Q : Post} (C : Lay h) (hd : 3 ≤ d) (T : TkC h tp L j f) (hl : 0 ≤ lo ∧ lo < 2147483648) (hh : -2147483648 ≤ hi ∧ hi < 2147483648)
    (k0 : ¬ f = 0 → Q (some (.int (J lo))) h) (k1 : f = 0 → ¬ nmF tp L j lo hi noB = 0 → ∀ h', Fr TTf h h' → TkC h' tp L j (nmF tp L j lo hi noB) → Q (some (.int (J lo))) h')
    (k2 : f = 0 → nmF tp L j lo hi noB = 0 → ∀ h', Fr TTf h h' → TkC h' tp L (nx tp L j) 0 → Q (some (.int (J (tkV tp L j)))) h') : Ex X PG d 35 0 [some (.ref 1), some (.int (J lo)), some (.int (J hi)), some (.int (J 0)), none] [] h Q :=
  m35 C hd T hl hh (fun v v0 _ v1 => nob0 v v0 v1) (fun v _ _ z => z) k0 k1 k2
theorem PlanRd.tk {h h' : AH} {a : Nat} {R : Int → Int} (P : PlanRd h a R) (F : Fr TTf h h') (ha : 4 ≤ a) : PlanRd h' a R := P.fr F (fun c k z => by unfold TTf at z; omega)
theorem PlanRd.far {h : AH} {a : Nat} {R : Int → Int} {n v f : Int} (D : PlanRd h a R) (I : CI n R) (hv : 0 ≤ v ∧ v < 8) (hf : 0 ≤ f ∧ f ≤ 9) : PlanRd (wA h (a + 1) v f) a (uu_ R (34 + v) f) := by
  obtain ⟨d1, d2, d3, d4, d5, d6⟩ := D
  have o : ∀ k, 0 ≤ k → k < 84 → ¬ k = 34 + v → uu_ R (34 + v) f k = R k := fun k k0 k1 k2 => uu_ne (by omega) (by omega) (by omega)
  have I1 := I.2.1
  have hf' : ∀ k, fI (wA h (a + 1) v f) a k = fI h a k := fun k => by rw [fI_wA_ne (by omega)]
  have ha : ∀ i, i ≤ 10 → ¬ i = 1 → aI (wA h (a + 1) v f) (a + i) = aI h (a + i) := fun i hi ni => aI_wA_ne (by omega)
  unfold PlanRd BtW dpr
  rw [o 0 (by omega) (by omega) (by omega), o 1 (by omega) (by omega) (by omega), o 2 (by omega) (by omega) (by omega), o 4 (by omega) (by omega) (by omega), o 5 (by omega) (by omega) (by omega), hf', hf', hf', hf', hf', hf', ha 2 (by omega) (by omega), ha 3 (by omega) (by omega), ha 4 (by omega) (by omega), ha 5 (by omega) (by omega), ha 6 (by omega) (by omega), ha 7 (by omega) (by omega), aI_wA (by omega)]
  refine ⟨d1, ⟨d2.1, d2.2.1, fun e e0 e1 => ?_⟩, fun r r0 r1 => ?_, fun e e0 e1 => ?_, fun p p0 p1 => ?_, fun x y x0 x1 y0 y1 => ?_⟩
  · rw [o _ (by omega) (by omega) (by omega)]; exact d2.2.2 e e0 e1
  · by_cases c : r = v
    · rw [c, uu_eq, uu_eq]
    · rw [uu_ne (by omega) (by omega) (by omega), o _ (by omega) (by omega) (by omega)]; exact d3 r r0 r1
  · rw [o _ (by omega) (by omega) (by omega), o _ (by omega) (by omega) (by omega)]; exact d4 e e0 e1
  · rw [o _ (by omega) (by omega) (by omega), o _ (by omega) (by omega) (by omega), o _ (by omega) (by omega) (by omega)]; exact d5 p p0 p1
  · have q := d6 x y x0 x1 y0 y1
    unfold BtW dpr at q
    rcases q with q | q
    · refine Or.inl ⟨q.1, fun e e0 e1 => ?_⟩
      rw [o _ (by omega) (by omega) (by omega), o _ (by omega) (by omega) (by omega)]; exact q.2 e e0 e1
    · refine Or.inr ⟨q.1, ?_⟩
      rw [o _ (by omega) (by omega) (by omega), o _ (by omega) (by omega) (by omega)]; exact q.2
theorem PlanRd.cas {h : AH} {a : Nat} {R : Int → Int} {n v : Int} (D : PlanRd h a R) (I : CI n R) (hv : 2 ≤ v ∧ v ≤ 8) : PlanRd (wF h a 0 v) a (uu_ R 0 v) := by
  obtain ⟨d1, d2, d3, d4, d5, d6⟩ := D
  have o : ∀ k, 0 < k → k < 84 → uu_ R 0 v k = R k := fun k k0 k1 => uu_ne (by omega) (by omega) (by omega)
  have I1 := I.2.1
  have hf' : ∀ k, ¬ k = 0 → fI (wF h a 0 v) a k = fI h a k := fun k hk => fI_wF_nk hk
  have ha : ∀ i, 0 < i → aI (wF h a 0 v) (a + i) = aI h (a + i) := fun i hi => aI_wF_ne (by omega)
  have e0 : uu_ R 0 v 0 = v := uu_eq _ _ _
  unfold PlanRd BtW dpr
  rw [e0, fI_wF_eq (by omega), o 1 (by omega) (by omega), o 2 (by omega) (by omega), o 4 (by omega) (by omega), o 5 (by omega) (by omega), hf' 1 (by omega), hf' 2 (by omega), hf' 3 (by omega), hf' 4 (by omega), hf' 5 (by omega), ha 1 (by omega), ha 2 (by omega), ha 3 (by omega), ha 4 (by omega), ha 5 (by omega), ha 6 (by omega), ha 7 (by omega)]
  refine ⟨⟨rfl, d1.2⟩, ⟨d2.1, d2.2.1, fun e e0 e1 => ?_⟩, fun r r0 r1 => ?_, fun e e0 e1 => ?_, fun p p0 p1 => ?_, fun x y x0 x1 y0 y1 => ?_⟩
  · rw [o _ (by omega) (by omega)]; exact d2.2.2 e e0 e1
  · rw [o _ (by omega) (by omega)]; exact d3 r r0 r1
  · rw [o _ (by omega) (by omega), o _ (by omega) (by omega)]; exact d4 e e0 e1
  · rw [o _ (by omega) (by omega), o _ (by omega) (by omega), o _ (by omega) (by omega)]; exact d5 p p0 p1
  · have q := d6 x y x0 x1 y0 y1
    unfold BtW dpr at q
    rcases q with q | q
    · refine Or.inl ⟨q.1, fun e e0 e1 => ?_⟩
      rw [o _ (by omega) (by omega), o _ (by omega) (by omega)]; exact q.2 e e0 e1
    · refine Or.inr ⟨q.1, ?_⟩
      rw [o _ (by omega) (by omega), o _ (by omega) (by omega)]; exact q.2
theorem PlanRd.nig {h : AH} {a : Nat} {R : Int → Int} {n u v : Int} (D : PlanRd h a R) (I : CI n R) (hu : 0 ≤ u ∧ u ≤ 23) (hv : 0 ≤ v ∧ v ≤ 23) : PlanRd (wF (wF h a 4 u) a 5 v) a (uu_ (uu_ R 4 u) 5 v) := by
  obtain ⟨d1, d2, d3, d4, d5, d6⟩ := D
  have o : ∀ k, 0 ≤ k → k < 84 → ¬ k = 4 → ¬ k = 5 → uu_ (uu_ R 4 u) 5 v k = R k := fun k k0 k1 k2 k3 => by rw [uu_ne (by omega) (by omega) (by omega), uu_ne (by omega) (by omega) (by omega)]
  have e5 : uu_ (uu_ R 4 u) 5 v 5 = v := uu_eq _ _ _
  have e4 : uu_ (uu_ R 4 u) 5 v 4 = u := by rw [uu_ne (by omega) (by omega) (by omega), uu_eq]
  have I1 := I.2.1
  have hf' : ∀ k, ¬ k = 4 → ¬ k = 5 → fI (wF (wF h a 4 u) a 5 v) a k = fI h a k := fun k h1 h2 => by rw [fI_wF_nk h2, fI_wF_nk h1]
  have ha : ∀ i, 0 < i → aI (wF (wF h a 4 u) a 5 v) (a + i) = aI h (a + i) := fun i hi => by rw [aI_wF_ne (by omega), aI_wF_ne (by omega)]
  have f5 : fI (wF (wF h a 4 u) a 5 v) a 5 = v := fI_wF_eq (by omega)
  have f4 : fI (wF (wF h a 4 u) a 5 v) a 4 = u := by rw [fI_wF_nk (by omega), fI_wF_eq (by omega)]
  unfold PlanRd BtW dpr
  rw [e4, e5, f4, f5, o 0 (by omega) (by omega) (by omega) (by omega), o 1 (by omega) (by omega) (by omega) (by omega), o 2 (by omega) (by omega) (by omega) (by omega), hf' 0 (by omega) (by omega), hf' 1 (by omega) (by omega), hf' 2 (by omega) (by omega), hf' 3 (by omega) (by omega), ha 1 (by omega), ha 2 (by omega), ha 3 (by omega), ha 4 (by omega), ha 5 (by omega), ha 6 (by omega), ha 7 (by omega)]
  refine ⟨⟨d1.1, d1.2.1, d1.2.2.1, rfl, rfl⟩, ⟨d2.1, d2.2.1, fun e e0 e1 => ?_⟩, fun r r0 r1 => ?_, fun e e0 e1 => ?_, fun p p0 p1 => ?_, fun x y x0 x1 y0 y1 => ?_⟩
  · rw [o _ (by omega) (by omega) (by omega) (by omega)]; exact d2.2.2 e e0 e1
  · rw [o _ (by omega) (by omega) (by omega) (by omega)]; exact d3 r r0 r1
  · rw [o _ (by omega) (by omega) (by omega) (by omega), o _ (by omega) (by omega) (by omega) (by omega)]; exact d4 e e0 e1
  · rw [o _ (by omega) (by omega) (by omega) (by omega), o _ (by omega) (by omega) (by omega) (by omega), o _ (by omega) (by omega) (by omega) (by omega)]; exact d5 p p0 p1
  · have q := d6 x y x0 x1 y0 y1
    unfold BtW dpr at q
    rcases q with q | q
    · refine Or.inl ⟨q.1, fun e e0 e1 => ?_⟩
      rw [o _ (by omega) (by omega) (by omega) (by omega), o _ (by omega) (by omega) (by omega) (by omega)]; exact q.2 e e0 e1
    · refine Or.inr ⟨q.1, ?_⟩
      rw [o _ (by omega) (by omega) (by omega) (by omega), o _ (by omega) (by omega) (by omega) (by omega)]; exact q.2
theorem PlanRd.per {h : AH} {a : Nat} {R : Int → Int} {n u v w : Int} (D : PlanRd h a R) (I : CI n R) (h4 : R 2 < 4) (hu : 0 ≤ u ∧ u < 8) (hv : 0 ≤ v ∧ v < 8) (hw : 0 ≤ w ∧ w ≤ 50) : PlanRd (wF (wA (wA (wA h (a + 4) (R 2) u) (a + 5) (R 2) v) (a + 6) (R 2) w) a 2 (R 2 + 1)) a (perR R u v w) := by
  obtain ⟨d1, d2, d3, d4, d5, d6⟩ := D
  have I1 := I.2.1
  obtain ⟨v2, va, vb, vc, v3, v4, v5, vo⟩ := perR_v (a := u) (b := v) (c := w) (R := R) (by omega)
  have hf' : ∀ k, ¬ k = 2 → fI (wF (wA (wA (wA h (a + 4) (R 2) u) (a + 5) (R 2) v) (a + 6) (R 2) w) a 2 (R 2 + 1)) a k = fI h a k := fun k h1 => by rw [fI_wF_nk h1, fI_wA_ne (by omega), fI_wA_ne (by omega), fI_wA_ne (by omega)]
  have f2 : fI (wF (wA (wA (wA h (a + 4) (R 2) u) (a + 5) (R 2) v) (a + 6) (R 2) w) a 2 (R 2 + 1)) a 2 = R 2 + 1 := fI_wF_eq (by omega)
  have ha : ∀ i, 0 < i → ¬ i = 4 → ¬ i = 5 → ¬ i = 6 → aI (wF (wA (wA (wA h (a + 4) (R 2) u) (a + 5) (R 2) v) (a + 6) (R 2) w) a 2 (R 2 + 1)) (a + i) = aI h (a + i) := fun i hi h4 h5 h6 => by rw [aI_wF_ne (by omega), aI_wA_ne (by omega), aI_wA_ne (by omega), aI_wA_ne (by omega)]
  have a4 : aI (wF (wA (wA (wA h (a + 4) (R 2) u) (a + 5) (R 2) v) (a + 6) (R 2) w) a 2 (R 2 + 1)) (a + 4) = uu_ (aI h (a + 4)) (R 2) u := by rw [aI_wF_ne (by omega), aI_wA_ne (by omega), aI_wA_ne (by omega), aI_wA (by omega)]
  have a5 : aI (wF (wA (wA (wA h (a + 4) (R 2) u) (a + 5) (R 2) v) (a + 6) (R 2) w) a 2 (R 2 + 1)) (a + 5) = uu_ (aI h (a + 5)) (R 2) v := by rw [aI_wF_ne (by omega), aI_wA_ne (by omega), aI_wA (by omega), aI_wA_ne (by omega)]
  have a6 : aI (wF (wA (wA (wA h (a + 4) (R 2) u) (a + 5) (R 2) v) (a + 6) (R 2) w) a 2 (R 2 + 1)) (a + 6) = uu_ (aI h (a + 6)) (R 2) w := by rw [aI_wF_ne (by omega), aI_wA (by omega), aI_wA_ne (by omega), aI_wA_ne (by omega)]
  have w0 := vo 0 (by omega) (by omega) (by omega) (by omega)
  have w1 := vo 1 (by omega) (by omega) (by omega) (by omega)
  have w4 := vo 4 (by omega) (by omega) (by omega) (by omega)
  have w5 := vo 5 (by omega) (by omega) (by omega) (by omega)
  unfold PlanRd BtW dpr
  rw [v2, w0, w1, w4, w5, f2, a4, a5, a6, hf' 0 (by omega), hf' 1 (by omega), hf' 3 (by omega), hf' 4 (by omega), hf' 5 (by omega), ha 1 (by omega) (by omega) (by omega) (by omega), ha 2 (by omega) (by omega) (by omega) (by omega), ha 3 (by omega) (by omega) (by omega) (by omega), ha 7 (by omega) (by omega) (by omega) (by omega)]
  refine ⟨⟨d1.1, d1.2.1, rfl, d1.2.2.2⟩, ⟨d2.1, d2.2.1, fun e e0 e1 => ?_⟩, fun r r0 r1 => ?_, fun e e0 e1 => ?_, fun p p0 p1 => ?_, fun x y x0 x1 y0 y1 => ?_⟩
  · rw [vo _ (by omega) (by omega) (by omega) (by omega)]; exact d2.2.2 e e0 e1
  · rw [vo _ (by omega) (by omega) (by omega) (by omega)]; exact d3 r r0 r1
  · rw [vo _ (by omega) (by omega) (by omega) (by omega), vo _ (by omega) (by omega) (by omega) (by omega)]; exact d4 e e0 e1
  · by_cases c : p = R 2
    · rw [c, uu_eq, uu_eq, uu_eq, va, vb, vc]; exact ⟨rfl, rfl, rfl⟩
    · rw [uu_ne (by omega) (by omega) (by omega), uu_ne (by omega) (by omega) (by omega), uu_ne (by omega) (by omega) (by omega), vo _ (by omega) (by omega) (by omega) (by omega), vo _ (by omega) (by omega) (by omega) (by omega), vo _ (by omega) (by omega) (by omega) (by omega)]; exact d5 p p0 (by omega)
  · have q := d6 x y x0 x1 y0 y1
    unfold BtW dpr at q
    rcases q with q | q
    · refine Or.inl ⟨q.1, fun e e0 e1 => ?_⟩
      rw [vo _ (by omega) (by omega) (by omega) (by omega), vo _ (by omega) (by omega) (by omega) (by omega)]; exact q.2 e e0 e1
    · refine Or.inr ⟨q.1, ?_⟩
      rw [vo _ (by omega) (by omega) (by omega) (by omega), vo _ (by omega) (by omega) (by omega) (by omega)]; exact q.2
-- OutwardDoors$CastleReader.readFar()V at 0
set_option maxRecDepth 20000 in
set_option maxHeartbeats 4000000 in
theorem r36_0 {X : Cst} {d : Nat} {pl : Nat} {h : AH} {Q : Post} (C_h : Lay h) (K_h_0 : PlanAt h pl) (P_h : hR h 3 1 = some pl)
  (w : Ex X PG d 35 0 [some (.ref 1), some (.int (J 0)), some (.int (J ((fI h pl 0) - 1))), some (.int (J 0)), none] [] h (fun v3 h4 => ∃ r5 : Int, (-2147483648 ≤ r5 ∧ r5 < 2147483648) ∧ v3 = some (.int (J r5)) ∧ SH h h4 ∧ Ex X PG d 35 0 [some (.ref 1), some (.int (J 0)), some (.int (J 9)), some (.int (J 0)), none] [] h4 (fun v7 h8 => ∃ r9 : Int, (-2147483648 ≤ r9 ∧ r9 < 2147483648) ∧ v7 = some (.int (J r9)) ∧ SH h4 h8 ∧ ((¬ fI h8 1 6 = 0 → Q none h8) ∧ (fI h8 1 6 = 0 → (0 ≤ r5 ∧ r5 < 8) ∧ Q none (wA h8 (pl + 1) r5 r9)))))) :
    Ex X PG (d + 1) 36 0 [some (.ref 3), none, none] [] h Q := by
  refine wpx_ok (cut := []) 29 d 36 0 _ _ _ _ ?_
  show hs h 3 = (0, 0) ∧ ∃ q1, hR h 3 0 = some q1 ∧ hs h 3 = (0, 0) ∧ ∃ q2, hR h 3 1 = some q2 ∧ hs h q2 = (0, 2) ∧ hs h q1 = (0, 8) ∧ Ex X PG d 35 0 [some (.ref q1), some (.int (J 0)), some (.int ((hF h q2 0) - (J 1))), some (.int (J 0)), none] [] h (fun v3 h4 => ∃ r5, v3 = some (.int r5) ∧ hs h4 3 = (0, 0) ∧ ∃ q6, hR h4 3 0 = some q6 ∧ hs h4 q6 = (0, 8) ∧ Ex X PG d 35 0 [some (.ref q6), some (.int (J 0)), some (.int (J 9)), some (.int (J 0)), none] [] h4 (fun v7 h8 => ∃ r9, v7 = some (.int r9) ∧ hs h8 3 = (0, 0) ∧ ∃ q10, hR h8 3 0 = some q10 ∧ hs h8 q10 = (0, 8) ∧ ((¬ (hF h8 q10 6) = (J 0) → Q none h8) ∧ (¬ (¬ (hF h8 q10 6) = (J 0)) → hs h8 3 = (0, 0) ∧ ∃ q13, hR h8 3 1 = some q13 ∧ hs h8 q13 = (0, 2) ∧ ∃ q14, hR h8 q13 6 = some q14 ∧ (hs h8 q14).1 = 1 ∧ ix r5 (hs h8 q14).2 ∧ Q none (wI h8 q14 (Int32.toNatClampNeg r5) r9)))))
  try simp only [aI_wAL, fI_wAL, aL_wA, aL_wF, aI_wA_ne, aI_wF_ne, fI_wA_ne, fI_wF_ne, fI_wF_nk, aL_wAL_ne, J_sameA, J_sameF, aL_same, Nat.add_left_cancel_iff, Nat.add_eq_left, Nat.left_eq_add, not_false_eq_true, Nat.reduceEqDiff, Nat.reduceAdd, J_add, J_sub, J_mul, J_neg, J_and, J_or, J_xor, J_shl, J_shr, J_div, J_i2b, J_i2l, J_l2i, J_lcm, J_max, J_min, J_nab, J_nao, rdA, rdF, rdL, wA_fold, wF_fold, wL_fold, wC_fold]
  refine ⟨(ls3 C_h), _, (lr3_0 C_h), ?_⟩
  refine ⟨(ls3 C_h), _, P_h, ?_⟩
  refine ⟨(plan_0 K_h_0), ?_⟩
  refine ⟨(ls1 C_h), ?_⟩
  refine Ex.mono w (Nat.le_refl _) ?_
  rintro v3 h4 ⟨r5, gr5, rfl, s17, w⟩
  refine ⟨_, rfl, ?_⟩
  have C_h4 := Lay_SH s17 C_h
  have K_h4_0 := PlanAt_SH s17 K_h_0
  have P_h4 := (congrFun (congrFun s17.2 3) 1).trans P_h
  try simp only [aI_wAL, fI_wAL, aL_wA, aL_wF, aI_wA_ne, aI_wF_ne, fI_wA_ne, fI_wF_ne, fI_wF_nk, aL_wAL_ne, J_sameA, J_sameF, aL_same, Nat.add_left_cancel_iff, Nat.add_eq_left, Nat.left_eq_add, not_false_eq_true, Nat.reduceEqDiff, Nat.reduceAdd, J_add, J_sub, J_mul, J_neg, J_and, J_or, J_xor, J_shl, J_shr, J_div, J_i2b, J_i2l, J_l2i, J_lcm, J_max, J_min, J_nab, J_nao, rdA, rdF, rdL, wA_fold, wF_fold, wL_fold, wC_fold]
  refine ⟨(ls3 C_h4), _, (lr3_0 C_h4), ?_⟩
  refine ⟨(ls1 C_h4), ?_⟩
  refine Ex.mono w (Nat.le_refl _) ?_
  rintro v7 h8 ⟨r9, gr9, rfl, s16, w⟩
  refine ⟨_, rfl, ?_⟩
  have C_h8 := Lay_SH s16 C_h4
  have K_h8_0 := PlanAt_SH s16 K_h4_0
  have P_h8 := (congrFun (congrFun s16.2 3) 1).trans P_h4
  try simp only [aI_wAL, fI_wAL, aL_wA, aL_wF, aI_wA_ne, aI_wF_ne, fI_wA_ne, fI_wF_ne, fI_wF_nk, aL_wAL_ne, J_sameA, J_sameF, aL_same, Nat.add_left_cancel_iff, Nat.add_eq_left, Nat.left_eq_add, not_false_eq_true, Nat.reduceEqDiff, Nat.reduceAdd, J_add, J_sub, J_mul, J_neg, J_and, J_or, J_xor, J_shl, J_shr, J_div, J_i2b, J_i2l, J_l2i, J_lcm, J_max, J_min, J_nab, J_nao, rdA, rdF, rdL, wA_fold, wF_fold, wL_fold, wC_fold]
  refine ⟨(ls3 C_h8), _, (lr3_0 C_h8), ?_⟩
  refine ⟨(ls1 C_h8), ?_⟩
  refine ⟨fun c11 => ?_, fun c11 => ?_⟩
  · have t12 : ¬ fI h8 1 6 = 0 := (fun e => c11 ((Jeq (rg_toInt _) (by decide)).mpr e))
    replace w := w.1 t12
    exact w
  · have t12 : fI h8 1 6 = 0 := ((Jeq (rg_toInt _) (by decide)).mp (Classical.byContradiction c11))
    replace w := w.2 t12
    refine ⟨(ls3 C_h8), _, P_h8, ?_⟩
    refine ⟨(plan_0 K_h8_0), _, (plan_11 K_h8_0), ?_⟩
    obtain ⟨k15, w⟩ := w
    refine ⟨congrArg Prod.fst (plan_1 K_h8_0), ixs (plan_1 K_h8_0) k15 (by decide), ?_⟩
    exact w
theorem m36 {X : Cst} {d pl : Nat} {L j n : Int} {tp R : Int → Int} {h : AH} {Q : Post} (C : Lay h) (K : PlanAt h pl) (P : hR h 3 1 = some pl) (hd : 4 ≤ d) (ha : 4 ≤ pl) (T : TkC h tp L j 0) (D : PlanRd h pl R) (I : CI n R) (k : CQ h pl tp L (cFar tp L j R) Q) : Ex X PG d 36 0 [some (.ref 3), none, none] [] h Q := by
  obtain ⟨d, rfl⟩ : ∃ e, d = e + 1 := ⟨d - 1, by omega⟩
  have I0 := I.1
  have tj := T.2.2.1
  refine r36_0 C K P ?_
  rw [D.1.1]
  refine m35n C (by omega) T (by omega) (by omega) (fun z => absurd rfl z) (fun _ e h2 F2 T2 => ⟨0, by omega, rfl, F2.1, ?_⟩) (fun _ e h2 F2 T2 => ⟨_, ?_, rfl, F2.1, ?_⟩)
  · unfold cFar at k
    rw [nmc_neg e] at k
    refine m35n (F2.C C) (by omega) T2 (by omega) (by omega) (fun _ => ⟨0, by omega, rfl, SH.rf, fun _ => ?_, fun z => absurd (T2.2.2.2.2.2.2.2.symm.trans z) e⟩) (fun z => absurd z e) (fun z => absurd z e)
    exact k.2 e h2 _ (F2.mo (fun _ _ => TTf_c)) T2
  · have v := nmF_0 tj.1 e
    omega
  · have v := nmF_0 tj.1 e
    unfold cFar at k
    rw [nmc_pos e] at k
    have t2 := T2.2.2.1
    refine m35n (F2.C C) (by omega) T2 (by omega) (by omega) (fun z => absurd rfl z) (fun _ e' h3 F3 T3 => ⟨0, by omega, rfl, F3.1, fun _ => ?_, fun z => absurd (T3.2.2.2.2.2.2.2.symm.trans z) e'⟩) (fun _ e' h3 F3 T3 => ⟨_, ?_, rfl, F3.1, fun z => absurd T3.2.2.2.2.2.2.2 z, fun _ => ⟨by omega, ?_⟩⟩)
    · rw [nmc_neg e'] at k
      exact k.2 e' h3 _ ((F2.tr F3).mo (fun _ _ => TTf_c)) T3
    · have v' := nmF_0 t2.1 e'
      omega
    · have v' := nmF_0 t2.1 e'
      rw [nmc_pos e'] at k
      have F := F2.tr F3
      have D3 := D.tk F ha
      have Fw : Fr (TPl pl) h3 (wA h3 (pl + 1) (tkV tp L j) (tkV tp L (nx tp L j))) := Fr.rf.wA (by unfold TPl; omega)
      refine k.1 rfl _ ((F.mo (fun _ _ => TTf_c)).tr (Fw.mo (fun _ _ => TPl_c))) (T3.fr Fw (fun k => by unfold TPl; omega) (fun k => by unfold TPl; omega)) ?_
      exact D3.far I (by omega) (by omega)
-- OutwardDoors$CastleReader.readNight()V at 0
set_option maxRecDepth 20000 in
set_option maxHeartbeats 4000000 in
theorem r37_0 {X : Cst} {d : Nat} {pl : Nat} {h : AH} {Q : Post} (C_h : Lay h) (K_h_0 : PlanAt h pl) (P_h : hR h 3 1 = some pl)
  (w : Ex X PG d 35 0 [some (.ref 1), some (.int (J 0)), some (.int (J 23)), some (.int (J 0)), none] [] h (fun v2 h3 => ∃ r4 : Int, (-2147483648 ≤ r4 ∧ r4 < 2147483648) ∧ v2 = some (.int (J r4)) ∧ SH h h3 ∧ Ex X PG d 35 0 [some (.ref 1), some (.int (J r4)), some (.int (J 23)), some (.int (J 0)), none] [] h3 (fun v6 h7 => ∃ r8 : Int, (-2147483648 ≤ r8 ∧ r8 < 2147483648) ∧ v6 = some (.int (J r8)) ∧ SH h3 h7 ∧ ((¬ fI h7 1 6 = 0 → Q none h7) ∧ (fI h7 1 6 = 0 → Q none (wF (wF h7 pl 4 r4) pl 5 r8)))))) :
    Ex X PG (d + 1) 37 0 [some (.ref 3), none, none] [] h Q := by
  refine wpx_ok (cut := []) 27 d 37 0 _ _ _ _ ?_
  show hs h 3 = (0, 0) ∧ ∃ q1, hR h 3 0 = some q1 ∧ hs h q1 = (0, 8) ∧ Ex X PG d 35 0 [some (.ref q1), some (.int (J 0)), some (.int (J 23)), some (.int (J 0)), none] [] h (fun v2 h3 => ∃ r4, v2 = some (.int r4) ∧ hs h3 3 = (0, 0) ∧ ∃ q5, hR h3 3 0 = some q5 ∧ hs h3 q5 = (0, 8) ∧ Ex X PG d 35 0 [some (.ref q5), some (.int r4), some (.int (J 23)), some (.int (J 0)), none] [] h3 (fun v6 h7 => ∃ r8, v6 = some (.int r8) ∧ hs h7 3 = (0, 0) ∧ ∃ q9, hR h7 3 0 = some q9 ∧ hs h7 q9 = (0, 8) ∧ ((¬ (hF h7 q9 6) = (J 0) → Q none h7) ∧ (¬ (¬ (hF h7 q9 6) = (J 0)) → hs h7 3 = (0, 0) ∧ ∃ q12, hR h7 3 1 = some q12 ∧ hs h7 q12 = (0, 2) ∧ hs (wG h7 q12 4 r4) 3 = (0, 0) ∧ ∃ q13, hR (wG h7 q12 4 r4) 3 1 = some q13 ∧ hs (wG h7 q12 4 r4) q13 = (0, 2) ∧ Q none (wG (wG h7 q12 4 r4) q13 5 r8)))))
  try simp only [aI_wAL, fI_wAL, aL_wA, aL_wF, aI_wA_ne, aI_wF_ne, fI_wA_ne, fI_wF_ne, fI_wF_nk, aL_wAL_ne, J_sameA, J_sameF, aL_same, Nat.add_left_cancel_iff, Nat.add_eq_left, Nat.left_eq_add, not_false_eq_true, Nat.reduceEqDiff, Nat.reduceAdd, J_add, J_sub, J_mul, J_neg, J_and, J_or, J_xor, J_shl, J_shr, J_div, J_i2b, J_i2l, J_l2i, J_lcm, J_max, J_min, J_nab, J_nao, rdA, rdF, rdL, wA_fold, wF_fold, wL_fold, wC_fold]
  refine ⟨(ls3 C_h), _, (lr3_0 C_h), ?_⟩
  refine ⟨(ls1 C_h), ?_⟩
  refine Ex.mono w (Nat.le_refl _) ?_
  rintro v2 h3 ⟨r4, gr4, rfl, s15, w⟩
  refine ⟨_, rfl, ?_⟩
  have C_h3 := Lay_SH s15 C_h
  have K_h3_0 := PlanAt_SH s15 K_h_0
  have P_h3 := (congrFun (congrFun s15.2 3) 1).trans P_h
  try simp only [aI_wAL, fI_wAL, aL_wA, aL_wF, aI_wA_ne, aI_wF_ne, fI_wA_ne, fI_wF_ne, fI_wF_nk, aL_wAL_ne, J_sameA, J_sameF, aL_same, Nat.add_left_cancel_iff, Nat.add_eq_left, Nat.left_eq_add, not_false_eq_true, Nat.reduceEqDiff, Nat.reduceAdd, J_add, J_sub, J_mul, J_neg, J_and, J_or, J_xor, J_shl, J_shr, J_div, J_i2b, J_i2l, J_l2i, J_lcm, J_max, J_min, J_nab, J_nao, rdA, rdF, rdL, wA_fold, wF_fold, wL_fold, wC_fold]
  refine ⟨(ls3 C_h3), _, (lr3_0 C_h3), ?_⟩
  refine ⟨(ls1 C_h3), ?_⟩
  refine Ex.mono w (Nat.le_refl _) ?_
  rintro v6 h7 ⟨r8, gr8, rfl, s14, w⟩
  refine ⟨_, rfl, ?_⟩
  have C_h7 := Lay_SH s14 C_h3
  have K_h7_0 := PlanAt_SH s14 K_h3_0
  have P_h7 := (congrFun (congrFun s14.2 3) 1).trans P_h3
  try simp only [aI_wAL, fI_wAL, aL_wA, aL_wF, aI_wA_ne, aI_wF_ne, fI_wA_ne, fI_wF_ne, fI_wF_nk, aL_wAL_ne, J_sameA, J_sameF, aL_same, Nat.add_left_cancel_iff, Nat.add_eq_left, Nat.left_eq_add, not_false_eq_true, Nat.reduceEqDiff, Nat.reduceAdd, J_add, J_sub, J_mul, J_neg, J_and, J_or, J_xor, J_shl, J_shr, J_div, J_i2b, J_i2l, J_l2i, J_lcm, J_max, J_min, J_nab, J_nao, rdA, rdF, rdL, wA_fold, wF_fold, wL_fold, wC_fold]
  refine ⟨(ls3 C_h7), _, (lr3_0 C_h7), ?_⟩
  refine ⟨(ls1 C_h7), ?_⟩
  refine ⟨fun c10 => ?_, fun c10 => ?_⟩
  · have t11 : ¬ fI h7 1 6 = 0 := (fun e => c10 ((Jeq (rg_toInt _) (by decide)).mpr e))
    replace w := w.1 t11
    exact w
  · have t11 : fI h7 1 6 = 0 := ((Jeq (rg_toInt _) (by decide)).mp (Classical.byContradiction c10))
    replace w := w.2 t11
    refine ⟨(ls3 C_h7), _, P_h7, ?_⟩
    refine ⟨(plan_0 K_h7_0), ?_⟩
    refine ⟨(ls3 C_h7), _, P_h7, ?_⟩
    refine ⟨(plan_0 K_h7_0), ?_⟩
    exact w
theorem m37 {X : Cst} {d pl : Nat} {L j n : Int} {tp R : Int → Int} {h : AH} {Q : Post} (C : Lay h) (K : PlanAt h pl) (P : hR h 3 1 = some pl) (hd : 4 ≤ d) (ha : 4 ≤ pl) (T : TkC h tp L j 0) (D : PlanRd h pl R) (I : CI n R) (k : CQ h pl tp L (cNig tp L j R) Q) : Ex X PG d 37 0 [some (.ref 3), none, none] [] h Q := by
  obtain ⟨d, rfl⟩ : ∃ e, d = e + 1 := ⟨d - 1, by omega⟩
  have tj := T.2.2.1
  refine r37_0 C K P ?_
  refine m35n C (by omega) T (by omega) (by omega) (fun z => absurd rfl z) (fun _ e h2 F2 T2 => ⟨0, by omega, rfl, F2.1, ?_⟩) (fun _ e h2 F2 T2 => ⟨_, ?_, rfl, F2.1, ?_⟩)
  · unfold cNig at k
    rw [nmc_neg e] at k
    refine m35n (F2.C C) (by omega) T2 (by omega) (by omega) (fun _ => ⟨0, by omega, rfl, SH.rf, fun _ => ?_, fun z => absurd (T2.2.2.2.2.2.2.2.symm.trans z) e⟩) (fun z => absurd z e) (fun z => absurd z e)
    exact k.2 e h2 _ (F2.mo (fun _ _ => TTf_c)) T2
  · have v := nmF_0 tj.1 e
    omega
  · have v := nmF_0 tj.1 e
    unfold cNig at k
    rw [nmc_pos e] at k
    have t2 := T2.2.2.1
    refine m35n (F2.C C) (by omega) T2 (by omega) (by omega) (fun z => absurd rfl z) (fun _ e' h3 F3 T3 => ⟨_, by omega, rfl, F3.1, fun _ => ?_, fun z => absurd (T3.2.2.2.2.2.2.2.symm.trans z) e'⟩) (fun _ e' h3 F3 T3 => ⟨_, ?_, rfl, F3.1, fun z => absurd T3.2.2.2.2.2.2.2 z, fun _ => ?_⟩)
    · rw [nmc_neg e'] at k
      exact k.2 e' h3 _ ((F2.tr F3).mo (fun _ _ => TTf_c)) T3
    · have v' := nmF_0 t2.1 e'
      omega
    · have v' := nmF_0 t2.1 e'
      rw [nmc_pos e'] at k
      have F := F2.tr F3
      have D3 := D.tk F ha
      have Fw : Fr (TPl pl) h3 (wF (wF h3 pl 4 (tkV tp L j)) pl 5 (tkV tp L (nx tp L j))) := (Fr.rf.wF (by unfold TPl; omega)).wF (by unfold TPl; omega)
      refine k.1 rfl _ ((F.mo (fun _ _ => TTf_c)).tr (Fw.mo (fun _ _ => TPl_c))) (T3.fr Fw (fun k => by unfold TPl; omega) (fun k => by unfold TPl; omega)) ?_
      exact D3.nig I (by omega) (by omega)
-- OutwardDoors$Plan.addPerson(III)V at 0
set_option maxRecDepth 20000 in
set_option maxHeartbeats 4000000 in
theorem r39_0 {X : Cst} {d : Nat} {a : Nat} {x1 : Int} {x2 : Int} {x3 : Int} {h : AH} {Q : Post} (C_h : Lay h) (K_h_0 : PlanAt h a)
  (w : (0 ≤ fI h a 2 ∧ fI h a 2 < 4) ∧ Ex X PG (d + 1) 39 10 [some (.ref a), some (.int (J x1)), some (.int (J x2)), some (.int (J x3))] [] (wA h (a + 4) (fI h a 2) x1) Q) :
    Ex X PG (d + 1) 39 0 [some (.ref a), some (.int (J x1)), some (.int (J x2)), some (.int (J x3))] [] h Q := by
  refine wpx_ok (cut := [10, 20, 30]) 6 d 39 0 _ _ _ _ ?_
  show hs h a = (0, 2) ∧ ∃ q1, hR h a 9 = some q1 ∧ hs h a = (0, 2) ∧ (hs h q1).1 = 1 ∧ ix (hF h a 2) (hs h q1).2 ∧ Ex X PG (d + 1) 39 10 [some (.ref a), some (.int (J x1)), some (.int (J x2)), some (.int (J x3))] [] (wI h q1 (Int32.toNatClampNeg (hF h a 2)) (J x1)) Q
  try simp only [aI_wAL, fI_wAL, aL_wA, aL_wF, aI_wA_ne, aI_wF_ne, fI_wA_ne, fI_wF_ne, fI_wF_nk, aL_wAL_ne, J_sameA, J_sameF, aL_same, Nat.add_left_cancel_iff, Nat.add_eq_left, Nat.left_eq_add, not_false_eq_true, Nat.reduceEqDiff, Nat.reduceAdd, J_add, J_sub, J_mul, J_neg, J_and, J_or, J_xor, J_shl, J_shr, J_div, J_i2b, J_i2l, J_l2i, J_lcm, J_max, J_min, J_nab, J_nao, rdA, rdF, rdL, wA_fold, wF_fold, wL_fold, wC_fold]
  refine ⟨(plan_0 K_h_0), _, (plan_14 K_h_0), ?_⟩
  refine ⟨(plan_0 K_h_0), ?_⟩
  obtain ⟨k2, w⟩ := w
  refine ⟨congrArg Prod.fst (plan_4 K_h_0), ixs (plan_4 K_h_0) k2 (by decide), ?_⟩
  exact w
-- OutwardDoors$Plan.addPerson(III)V at 10
set_option maxRecDepth 20000 in
set_option maxHeartbeats 4000000 in
theorem r39_10 {X : Cst} {d : Nat} {a : Nat} {x1 : Int} {x2 : Int} {x3 : Int} {h : AH} {Q : Post} (C_h : Lay h) (K_h_0 : PlanAt h a)
  (w : (0 ≤ fI h a 2 ∧ fI h a 2 < 4) ∧ Ex X PG (d + 1) 39 20 [some (.ref a), some (.int (J x1)), some (.int (J x2)), some (.int (J x3))] [] (wA h (a + 5) (fI h a 2) x2) Q) :
    Ex X PG (d + 1) 39 10 [some (.ref a), some (.int (J x1)), some (.int (J x2)), some (.int (J x3))] [] h Q := by
  refine wpx_ok (cut := [10, 20, 30]) 6 d 39 10 _ _ _ _ ?_
  show hs h a = (0, 2) ∧ ∃ q1, hR h a 10 = some q1 ∧ hs h a = (0, 2) ∧ (hs h q1).1 = 1 ∧ ix (hF h a 2) (hs h q1).2 ∧ Ex X PG (d + 1) 39 20 [some (.ref a), some (.int (J x1)), some (.int (J x2)), some (.int (J x3))] [] (wI h q1 (Int32.toNatClampNeg (hF h a 2)) (J x2)) Q
  try simp only [aI_wAL, fI_wAL, aL_wA, aL_wF, aI_wA_ne, aI_wF_ne, fI_wA_ne, fI_wF_ne, fI_wF_nk, aL_wAL_ne, J_sameA, J_sameF, aL_same, Nat.add_left_cancel_iff, Nat.add_eq_left, Nat.left_eq_add, not_false_eq_true, Nat.reduceEqDiff, Nat.reduceAdd, J_add, J_sub, J_mul, J_neg, J_and, J_or, J_xor, J_shl, J_shr, J_div, J_i2b, J_i2l, J_l2i, J_lcm, J_max, J_min, J_nab, J_nao, rdA, rdF, rdL, wA_fold, wF_fold, wL_fold, wC_fold]
  refine ⟨(plan_0 K_h_0), _, (plan_15 K_h_0), ?_⟩
  refine ⟨(plan_0 K_h_0), ?_⟩
  obtain ⟨k2, w⟩ := w
  refine ⟨congrArg Prod.fst (plan_5 K_h_0), ixs (plan_5 K_h_0) k2 (by decide), ?_⟩
  exact w
-- OutwardDoors$Plan.addPerson(III)V at 20
set_option maxRecDepth 20000 in
set_option maxHeartbeats 4000000 in
theorem r39_20 {X : Cst} {d : Nat} {a : Nat} {x1 : Int} {x2 : Int} {x3 : Int} {h : AH} {Q : Post} (C_h : Lay h) (K_h_0 : PlanAt h a)
  (w : (0 ≤ fI h a 2 ∧ fI h a 2 < 4) ∧ Ex X PG (d + 1) 39 30 [some (.ref a), some (.int (J x1)), some (.int (J x2)), some (.int (J x3))] [] (wA h (a + 6) (fI h a 2) x3) Q) :
    Ex X PG (d + 1) 39 20 [some (.ref a), some (.int (J x1)), some (.int (J x2)), some (.int (J x3))] [] h Q := by
  refine wpx_ok (cut := [10, 20, 30]) 6 d 39 20 _ _ _ _ ?_
  show hs h a = (0, 2) ∧ ∃ q1, hR h a 11 = some q1 ∧ hs h a = (0, 2) ∧ (hs h q1).1 = 1 ∧ ix (hF h a 2) (hs h q1).2 ∧ Ex X PG (d + 1) 39 30 [some (.ref a), some (.int (J x1)), some (.int (J x2)), some (.int (J x3))] [] (wI h q1 (Int32.toNatClampNeg (hF h a 2)) (J x3)) Q
  try simp only [aI_wAL, fI_wAL, aL_wA, aL_wF, aI_wA_ne, aI_wF_ne, fI_wA_ne, fI_wF_ne, fI_wF_nk, aL_wAL_ne, J_sameA, J_sameF, aL_same, Nat.add_left_cancel_iff, Nat.add_eq_left, Nat.left_eq_add, not_false_eq_true, Nat.reduceEqDiff, Nat.reduceAdd, J_add, J_sub, J_mul, J_neg, J_and, J_or, J_xor, J_shl, J_shr, J_div, J_i2b, J_i2l, J_l2i, J_lcm, J_max, J_min, J_nab, J_nao, rdA, rdF, rdL, wA_fold, wF_fold, wL_fold, wC_fold]
  refine ⟨(plan_0 K_h_0), _, (plan_16 K_h_0), ?_⟩
  refine ⟨(plan_0 K_h_0), ?_⟩
  obtain ⟨k2, w⟩ := w
  refine ⟨congrArg Prod.fst (plan_6 K_h_0), ixs (plan_6 K_h_0) k2 (by decide), ?_⟩
  exact w
-- OutwardDoors$Plan.addPerson(III)V at 30
set_option maxRecDepth 20000 in
set_option maxHeartbeats 4000000 in
theorem r39_30 {X : Cst} {d : Nat} {a : Nat} {x1 : Int} {x2 : Int} {x3 : Int} {h : AH} {Q : Post} (C_h : Lay h) (K_h_0 : PlanAt h a)
  (w : Q none (wF h a 2 ((fI h a 2) + 1))) :
    Ex X PG (d + 1) 39 30 [some (.ref a), some (.int (J x1)), some (.int (J x2)), some (.int (J x3))] [] h Q := by
  refine wpx_ok (cut := [10, 20, 30]) 7 d 39 30 _ _ _ _ ?_
  show hs h a = (0, 2) ∧ hs h a = (0, 2) ∧ Q none (wG h a 2 ((hF h a 2) + (J 1)))
  try simp only [aI_wAL, fI_wAL, aL_wA, aL_wF, aI_wA_ne, aI_wF_ne, fI_wA_ne, fI_wF_ne, fI_wF_nk, aL_wAL_ne, J_sameA, J_sameF, aL_same, Nat.add_left_cancel_iff, Nat.add_eq_left, Nat.left_eq_add, not_false_eq_true, Nat.reduceEqDiff, Nat.reduceAdd, J_add, J_sub, J_mul, J_neg, J_and, J_or, J_xor, J_shl, J_shr, J_div, J_i2b, J_i2l, J_l2i, J_lcm, J_max, J_min, J_nab, J_nao, rdA, rdF, rdL, wA_fold, wF_fold, wL_fold, wC_fold]
  refine ⟨(plan_0 K_h_0), ?_⟩
  refine ⟨(plan_0 K_h_0), ?_⟩
  exact w
theorem m39 {X : Cst} {d a : Nat} {p u v w : Int} {h : AH} {Q : Post} (C : Lay h) (K : PlanAt h a) (hd : 1 ≤ d) (ep : fI h a 2 = p) (hp : 0 ≤ p ∧ p < 4) (k : Q none (wF (wA (wA (wA h (a + 4) p u) (a + 5) p v) (a + 6) p w) a 2 (p + 1))) : Ex X PG d 39 0 [some (.ref a), some (.int (J u)), some (.int (J v)), some (.int (J w))] [] h Q := by
  obtain ⟨d, rfl⟩ : ∃ e, d = e + 1 := ⟨d - 1, by omega⟩
  have s1 : SH h (wA h (a + 4) p u) := SH.rf.wA
  have s2 : SH h (wA (wA h (a + 4) p u) (a + 5) p v) := s1.wA
  have s3 : SH h (wA (wA (wA h (a + 4) p u) (a + 5) p v) (a + 6) p w) := s2.wA
  have e1 : fI (wA h (a + 4) p u) a 2 = p := by rw [fI_wA_ne (by omega)]; exact ep
  have e2 : fI (wA (wA h (a + 4) p u) (a + 5) p v) a 2 = p := by rw [fI_wA_ne (by omega)]; exact e1
  have e3 : fI (wA (wA (wA h (a + 4) p u) (a + 5) p v) (a + 6) p w) a 2 = p := by rw [fI_wA_ne (by omega)]; exact e2
  refine r39_0 C K ?_
  rw [ep]
  refine ⟨by omega, r39_10 (Lay_SH s1 C) (PlanAt_SH s1 K) ?_⟩
  rw [e1]
  refine ⟨by omega, r39_20 (Lay_SH s2 C) (PlanAt_SH s2 K) ?_⟩
  rw [e2]
  refine ⟨by omega, r39_30 (Lay_SH s3 C) (PlanAt_SH s3 K) ?_⟩
  rw [e3]
  exact k
-- OutwardDoors$CastleReader.readPerson()V at 0
set_option maxRecDepth 20000 in
set_option maxHeartbeats 4000000 in
theorem r38_0 {X : Cst} {d : Nat} {pl : Nat} {h : AH} {Q : Post} (C_h : Lay h) (K_h_0 : PlanAt h pl) (P_h : hR h 3 1 = some pl)
  (w : Ex X PG d 35 0 [some (.ref 1), some (.int (J 0)), some (.int (J ((fI h pl 0) - 1))), some (.int (J 0)), none] [] h (fun v3 h4 => ∃ r5 : Int, (-2147483648 ≤ r5 ∧ r5 < 2147483648) ∧ v3 = some (.int (J r5)) ∧ SH h h4 ∧ Ex X PG d 35 0 [some (.ref 1), some (.int (J 0)), some (.int (J ((fI h4 pl 0) - 1))), some (.int (J 0)), none] [] h4 (fun v8 h9 => ∃ r10 : Int, (-2147483648 ≤ r10 ∧ r10 < 2147483648) ∧ v8 = some (.int (J r10)) ∧ SH h4 h9 ∧ Ex X PG d 35 0 [some (.ref 1), some (.int (J 0)), some (.int (J 50)), some (.int (J 0)), none] [] h9 (fun v12 h13 => ∃ r14 : Int, (-2147483648 ≤ r14 ∧ r14 < 2147483648) ∧ v12 = some (.int (J r14)) ∧ SH h9 h13 ∧ ((¬ fI h13 1 6 = 0 → Q none h13) ∧ (fI h13 1 6 = 0 → Ex X PG d 39 0 [some (.ref pl), some (.int (J r5)), some (.int (J r10)), some (.int (J r14))] [] h13 (fun v19 h20 => v19 = none ∧ SH h13 h20 ∧ Q none h20))))))) :
    Ex X PG (d + 1) 38 0 [some (.ref 3), none, none, none] [] h Q := by
  refine wpx_ok (cut := []) 40 d 38 0 _ _ _ _ ?_
  show hs h 3 = (0, 0) ∧ ∃ q1, hR h 3 0 = some q1 ∧ hs h 3 = (0, 0) ∧ ∃ q2, hR h 3 1 = some q2 ∧ hs h q2 = (0, 2) ∧ hs h q1 = (0, 8) ∧ Ex X PG d 35 0 [some (.ref q1), some (.int (J 0)), some (.int ((hF h q2 0) - (J 1))), some (.int (J 0)), none] [] h (fun v3 h4 => ∃ r5, v3 = some (.int r5) ∧ hs h4 3 = (0, 0) ∧ ∃ q6, hR h4 3 0 = some q6 ∧ hs h4 3 = (0, 0) ∧ ∃ q7, hR h4 3 1 = some q7 ∧ hs h4 q7 = (0, 2) ∧ hs h4 q6 = (0, 8) ∧ Ex X PG d 35 0 [some (.ref q6), some (.int (J 0)), some (.int ((hF h4 q7 0) - (J 1))), some (.int (J 0)), none] [] h4 (fun v8 h9 => ∃ r10, v8 = some (.int r10) ∧ hs h9 3 = (0, 0) ∧ ∃ q11, hR h9 3 0 = some q11 ∧ hs h9 q11 = (0, 8) ∧ Ex X PG d 35 0 [some (.ref q11), some (.int (J 0)), some (.int (J 50)), some (.int (J 0)), none] [] h9 (fun v12 h13 => ∃ r14, v12 = some (.int r14) ∧ hs h13 3 = (0, 0) ∧ ∃ q15, hR h13 3 0 = some q15 ∧ hs h13 q15 = (0, 8) ∧ ((¬ (hF h13 q15 6) = (J 0) → Q none h13) ∧ (¬ (¬ (hF h13 q15 6) = (J 0)) → hs h13 3 = (0, 0) ∧ ∃ q18, hR h13 3 1 = some q18 ∧ hs h13 q18 = (0, 2) ∧ Ex X PG d 39 0 [some (.ref q18), some (.int r5), some (.int r10), some (.int r14)] [] h13 (fun v19 h20 => v19 = none ∧ Q none h20))))))
  try simp only [aI_wAL, fI_wAL, aL_wA, aL_wF, aI_wA_ne, aI_wF_ne, fI_wA_ne, fI_wF_ne, fI_wF_nk, aL_wAL_ne, J_sameA, J_sameF, aL_same, Nat.add_left_cancel_iff, Nat.add_eq_left, Nat.left_eq_add, not_false_eq_true, Nat.reduceEqDiff, Nat.reduceAdd, J_add, J_sub, J_mul, J_neg, J_and, J_or, J_xor, J_shl, J_shr, J_div, J_i2b, J_i2l, J_l2i, J_lcm, J_max, J_min, J_nab, J_nao, rdA, rdF, rdL, wA_fold, wF_fold, wL_fold, wC_fold]
  refine ⟨(ls3 C_h), _, (lr3_0 C_h), ?_⟩
  refine ⟨(ls3 C_h), _, P_h, ?_⟩
  refine ⟨(plan_0 K_h_0), ?_⟩
  refine ⟨(ls1 C_h), ?_⟩
  refine Ex.mono w (Nat.le_refl _) ?_
  rintro v3 h4 ⟨r5, gr5, rfl, s24, w⟩
  refine ⟨_, rfl, ?_⟩
  have C_h4 := Lay_SH s24 C_h
  have K_h4_0 := PlanAt_SH s24 K_h_0
  have P_h4 := (congrFun (congrFun s24.2 3) 1).trans P_h
  try simp only [aI_wAL, fI_wAL, aL_wA, aL_wF, aI_wA_ne, aI_wF_ne, fI_wA_ne, fI_wF_ne, fI_wF_nk, aL_wAL_ne, J_sameA, J_sameF, aL_same, Nat.add_left_cancel_iff, Nat.add_eq_left, Nat.left_eq_add, not_false_eq_true, Nat.reduceEqDiff, Nat.reduceAdd, J_add, J_sub, J_mul, J_neg, J_and, J_or, J_xor, J_shl, J_shr, J_div, J_i2b, J_i2l, J_l2i, J_lcm, J_max, J_min, J_nab, J_nao, rdA, rdF, rdL, wA_fold, wF_fold, wL_fold, wC_fold]
  refine ⟨(ls3 C_h4), _, (lr3_0 C_h4), ?_⟩
  refine ⟨(ls3 C_h4), _, P_h4, ?_⟩
  refine ⟨(plan_0 K_h4_0), ?_⟩
  refine ⟨(ls1 C_h4), ?_⟩
  refine Ex.mono w (Nat.le_refl _) ?_
  rintro v8 h9 ⟨r10, gr10, rfl, s23, w⟩
  refine ⟨_, rfl, ?_⟩
  have C_h9 := Lay_SH s23 C_h4
  have K_h9_0 := PlanAt_SH s23 K_h4_0
  have P_h9 := (congrFun (congrFun s23.2 3) 1).trans P_h4
  try simp only [aI_wAL, fI_wAL, aL_wA, aL_wF, aI_wA_ne, aI_wF_ne, fI_wA_ne, fI_wF_ne, fI_wF_nk, aL_wAL_ne, J_sameA, J_sameF, aL_same, Nat.add_left_cancel_iff, Nat.add_eq_left, Nat.left_eq_add, not_false_eq_true, Nat.reduceEqDiff, Nat.reduceAdd, J_add, J_sub, J_mul, J_neg, J_and, J_or, J_xor, J_shl, J_shr, J_div, J_i2b, J_i2l, J_l2i, J_lcm, J_max, J_min, J_nab, J_nao, rdA, rdF, rdL, wA_fold, wF_fold, wL_fold, wC_fold]
  refine ⟨(ls3 C_h9), _, (lr3_0 C_h9), ?_⟩
  refine ⟨(ls1 C_h9), ?_⟩
  refine Ex.mono w (Nat.le_refl _) ?_
  rintro v12 h13 ⟨r14, gr14, rfl, s22, w⟩
  refine ⟨_, rfl, ?_⟩
  have C_h13 := Lay_SH s22 C_h9
  have K_h13_0 := PlanAt_SH s22 K_h9_0
  have P_h13 := (congrFun (congrFun s22.2 3) 1).trans P_h9
  try simp only [aI_wAL, fI_wAL, aL_wA, aL_wF, aI_wA_ne, aI_wF_ne, fI_wA_ne, fI_wF_ne, fI_wF_nk, aL_wAL_ne, J_sameA, J_sameF, aL_same, Nat.add_left_cancel_iff, Nat.add_eq_left, Nat.left_eq_add, not_false_eq_true, Nat.reduceEqDiff, Nat.reduceAdd, J_add, J_sub, J_mul, J_neg, J_and, J_or, J_xor, J_shl, J_shr, J_div, J_i2b, J_i2l, J_l2i, J_lcm, J_max, J_min, J_nab, J_nao, rdA, rdF, rdL, wA_fold, wF_fold, wL_fold, wC_fold]
  refine ⟨(ls3 C_h13), _, (lr3_0 C_h13), ?_⟩
  refine ⟨(ls1 C_h13), ?_⟩
  refine ⟨fun c16 => ?_, fun c16 => ?_⟩
  · have t17 : ¬ fI h13 1 6 = 0 := (fun e => c16 ((Jeq (rg_toInt _) (by decide)).mpr e))
    replace w := w.1 t17
    exact w
  · have t17 : fI h13 1 6 = 0 := ((Jeq (rg_toInt _) (by decide)).mp (Classical.byContradiction c16))
    replace w := w.2 t17
    refine ⟨(ls3 C_h13), _, P_h13, ?_⟩
    refine ⟨(plan_0 K_h13_0), ?_⟩
    refine Ex.mono w (Nat.le_refl _) ?_
    rintro v19 h20 ⟨rfl, s21, w⟩
    refine ⟨rfl, ?_⟩
    have C_h20 := Lay_SH s21 C_h13
    have K_h20_0 := PlanAt_SH s21 K_h13_0
    have P_h20 := (congrFun (congrFun s21.2 3) 1).trans P_h13
    try simp only [aI_wAL, fI_wAL, aL_wA, aL_wF, aI_wA_ne, aI_wF_ne, fI_wA_ne, fI_wF_ne, fI_wF_nk, aL_wAL_ne, J_sameA, J_sameF, aL_same, Nat.add_left_cancel_iff, Nat.add_eq_left, Nat.left_eq_add, not_false_eq_true, Nat.reduceEqDiff, Nat.reduceAdd, J_add, J_sub, J_mul, J_neg, J_and, J_or, J_xor, J_shl, J_shr, J_div, J_i2b, J_i2l, J_l2i, J_lcm, J_max, J_min, J_nab, J_nao, rdA, rdF, rdL, wA_fold, wF_fold, wL_fold, wC_fold]
    exact w
theorem m38 {X : Cst} {d pl : Nat} {L j n : Int} {tp R : Int → Int} {h : AH} {Q : Post} (C : Lay h) (K : PlanAt h pl) (P : hR h 3 1 = some pl) (hd : 4 ≤ d) (ha : 4 ≤ pl) (T : TkC h tp L j 0) (D : PlanRd h pl R) (I : CI n R) (h4 : ¬ R 2 = 4) (k : CQ h pl tp L (cPer tp L j R) Q) : Ex X PG d 38 0 [some (.ref 3), none, none, none] [] h Q := by
  obtain ⟨d, rfl⟩ : ∃ e, d = e + 1 := ⟨d - 1, by omega⟩
  have I0 := I.1
  have I1 := I.2.1
  have tj := T.2.2.1
  refine r38_0 C K P ?_
  rw [D.1.1]
  have skip : ∀ (lo hi : Int) (h2 : AH) (j2 f : Int) (Q2 : Post), 0 ≤ lo ∧ lo < 100 → 0 ≤ hi + 1 ∧ hi < 100 → Fr TTf h h2 → TkC h2 tp L j2 f → ¬ f = 0 → Q2 (some (.int (J lo))) h2 → Ex X PG d 35 0 [some (.ref 1), some (.int (J lo)), some (.int (J hi)), some (.int (J 0)), none] [] h2 Q2 := by
    intro lo hi h2 j2 f Q2 hl hh F2 T2 nf q
    exact m35n (F2.C C) (by omega) T2 (by omega) (by omega) (fun _ => q) (fun z => absurd z nf) (fun z => absurd z nf)
  refine m35n C (by omega) T (by omega) (by omega) (fun z => absurd rfl z) (fun _ e h2 F2 T2 => ⟨0, by omega, rfl, F2.1, ?_⟩) (fun _ e h2 F2 T2 => ⟨_, ?_, rfl, F2.1, ?_⟩)
  · unfold cPer at k
    rw [nmc_neg e] at k
    have e0 : fI h2 pl 0 = R 0 := (D.tk F2 ha).1.1
    rw [e0]
    refine skip 0 _ h2 _ _ _ (by omega) (by omega) F2 T2 e ⟨0, by omega, rfl, SH.rf, ?_⟩
    refine skip 0 50 h2 _ _ _ (by omega) (by omega) F2 T2 e ⟨0, by omega, rfl, SH.rf, fun _ => ?_, fun z => absurd (T2.2.2.2.2.2.2.2.symm.trans z) e⟩
    exact k.2 e h2 _ (F2.mo (fun _ _ => TTf_c)) T2
  · have v := nmF_0 tj.1 e
    omega
  have v := nmF_0 tj.1 e
  unfold cPer at k
  rw [nmc_pos e] at k
  have e0 : fI h2 pl 0 = R 0 := (D.tk F2 ha).1.1
  have t2 := T2.2.2.1
  rw [e0]
  refine m35n (F2.C C) (by omega) T2 (by omega) (by omega) (fun z => absurd rfl z) (fun _ e' h3 F3 T3 => ⟨0, by omega, rfl, F3.1, ?_⟩) (fun _ e' h3 F3 T3 => ⟨_, ?_, rfl, F3.1, ?_⟩)
  · rw [nmc_neg e'] at k
    refine skip 0 50 h3 _ _ _ (by omega) (by omega) (F2.tr F3) T3 e' ⟨0, by omega, rfl, SH.rf, fun _ => ?_, fun z => absurd (T3.2.2.2.2.2.2.2.symm.trans z) e'⟩
    exact k.2 e' h3 _ ((F2.tr F3).mo (fun _ _ => TTf_c)) T3
  · have v' := nmF_0 t2.1 e'
    omega
  have v' := nmF_0 t2.1 e'
  rw [nmc_pos e'] at k
  have t3 := T3.2.2.1
  have F23 := F2.tr F3
  refine m35n (F23.C C) (by omega) T3 (by omega) (by omega) (fun z => absurd rfl z) (fun _ e'' h4 F4 T4 => ⟨0, by omega, rfl, F4.1, fun _ => ?_, fun z => absurd (T4.2.2.2.2.2.2.2.symm.trans z) e''⟩) (fun _ e'' h4 F4 T4 => ⟨_, ?_, rfl, F4.1, fun z => absurd T4.2.2.2.2.2.2.2 z, fun _ => ?_⟩)
  · rw [nmc_neg e''] at k
    exact k.2 e'' h4 _ ((F23.tr F4).mo (fun _ _ => TTf_c)) T4
  · have v'' := nmF_0 t3.1 e''
    omega
  have v'' := nmF_0 t3.1 e''
  rw [nmc_pos e''] at k
  have F := F23.tr F4
  have D4 := D.tk F ha
  have Fw : Fr (TPl pl) h4 (wF (wA (wA (wA h4 (pl + 4) (R 2) (tkV tp L j)) (pl + 5) (R 2) (tkV tp L (nx tp L j))) (pl + 6) (R 2) (tkV tp L (nx tp L (nx tp L j)))) pl 2 (R 2 + 1)) := (((Fr.rf.wA (by unfold TPl; omega)).wA (by unfold TPl; omega)).wA (by unfold TPl; omega)).wF (by unfold TPl; omega)
  refine m39 (F.C C) (PlanAt_SH F.1 K) (by omega) D4.1.2.2.1 (by omega) ⟨rfl, Fw.1, ?_⟩
  refine k.1 rfl _ ((F.mo (fun _ _ => TTf_c)).tr (Fw.mo (fun _ _ => TPl_c))) (T4.fr Fw (fun k => by unfold TPl; omega) (fun k => by unfold TPl; omega)) ?_
  exact D4.per I (by omega) (by omega) (by omega) (by omega)
