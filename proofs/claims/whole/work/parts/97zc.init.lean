/-! WHAT HOLDS AFTER BOTH CONSTRUCTORS. -/
theorem q_n : k19.1 = 281 := by decide +kernel
theorem q_z : k19.2.2.2.2.2 ≤ 1000000 := by decide +kernel
theorem q_s : ∀ k, k < 281 → LSt[k]? = some (k19.2.1 k) := by decide +kernel
theorem q_l : LSt.length = 281 := by decide +kernel
theorem q_r : ∀ p, p ∈ LRt → k19.2.2.1 (p.1 / 64) (p.1 % 64) = some p.2 := by decide +kernel
theorem lk_mem {l : List (Nat × Nat)} {a q : Nat} (h : l.lookup a = some q) : (a, q) ∈ l := by
  induction l with
  | nil => cases h
  | cons x l ih =>
    obtain ⟨b, c⟩ := x
    rw [List.lookup_cons] at h
    by_cases e : a = b
    · rw [e, beq_self_eq_true] at h
      cases h
      rw [e]
      exact List.mem_cons_self
    · rw [beq_eq_false_iff_ne.mpr e] at h
      exact List.mem_cons_of_mem _ (ih h)
theorem q_lay {h : AH} (H : HG h k19) : Lay h := by
  refine ⟨fun k t e => ?_, fun a k q l e => ?_⟩
  · have lk : k < 281 := by
      rw [← q_l]
      exact (List.getElem?_eq_some_iff.mp e).1
    rw [q_s k lk] at e
    cases e
    exact congrFun H.2.1 k
  · have := q_r _ (lk_mem e)
    have e1 : (a * 64 + k) / 64 = a := by omega
    have e2 : (a * 64 + k) % 64 = k := by omega
    have this : k19.2.2.1 ((a * 64 + k) / 64) ((a * 64 + k) % 64) = some q := this
    rw [e1, e2] at this
    exact H.r' this
/-- a row of zeros, whole -/
def Zr (s : ST) (c : Nat) : Prop := c < s.1 ∧ s.2.2.2.1 c = fun _ => some 0
section
variable {s : ST} {c : Nat}
theorem Zr.a {t : Nat × Nat} {z : Nat} (Z : Zr s c) : Zr (sA s t z) c := ⟨by show c < s.1 + 1; have := Z.1; omega, (va_up_ne _ _ (by have := Z.1; omega)).trans Z.2⟩
theorem Zr.r {a k : Nat} {x : Option Nat} (Z : Zr s c) : Zr (sR s a k x) c := Z
theorem Zr.x {a k t n z : Nat} (Z : Zr s c) : Zr (sX s a k t n z) c := Z.a.r
theorem Zr.i {a k : Nat} {v : Int} (Z : Zr s c) (n : ¬ c = a) : Zr (sI s a k v) c := ⟨Z.1, (va_up_ne _ _ n).trans Z.2⟩
theorem Zr.f {a n : Nat} {v : Int} (Z : Zr s c) (l : ¬ c = a) : Zr (sF s a n v) c := ⟨Z.1, (va_up_ne _ _ l).trans Z.2⟩
theorem Zr.nw {a k t n z : Nat} (e : s.1 = c) : Zr (sX s a k t n z) c := ⟨by show c < s.1 + 1; omega, by subst e; exact va_up_self _ _ _⟩
theorem Zr.c12 {a : Nat} (Z : Zr s c) : Zr (c12 a s) c := Z.x.x.x.x.x
theorem Zr.c13 {a : Nat} (Z : Zr s c) : Zr (c13 a s) c := Z.x.x.x.x.x
theorem Zr.c5 {a : Nat} (Z : Zr s c) : Zr (c5 a s) c := Z.x.x.x.x
theorem Zr.c15 {a a1 : Nat} (Z : Zr s c) (n : ¬ c = a) : Zr (c15 a a1 s) c := Z.r.i n
theorem Zr.c14 {a a1 : Nat} (Z : Zr s c) (n : ¬ c = a) : Zr (c14 a a1 s) c := (Z.c15 n).x.x.i n
theorem Zr.c16 {a a1 : Nat} (Z : Zr s c) (n : ¬ c = a) : Zr (c16 a a1 s) c := (Z.c15 n).x.x.x.x
theorem Zr.c11 {a a1 : Nat} (Z : Zr s c) (n : ¬ c = a) : Zr (c11 a a1 s) c := (Z.a.c12.r.i n).x.x.x.r
theorem Zr.pl0 {a : Nat} (Z : Zr s c) : Zr (cPl0 a s) c := Z.x.x.x.x.x.x.x.x.x.x
theorem Zr.pl {a : Nat} (Z : Zr s c) (n : ¬ c = a) (n7 : ¬ c = a + 7) : Zr (cPlan a s) c := ((Z.pl0.f n7).i n).i n
theorem Zr.c7 {a : Nat} (Z : Zr s c) (n : ¬ c = a) (n1 : ¬ c = a + 1) (n2 : ¬ c = a + 2) (n3 : ¬ c = a + 3) : Zr (c7 a s) c := ((((((Z.i n).i n).i n1).i n).i n2).i n3).i n
end
theorem z2_1 : Zr k1 2 := (Zr.nw (by decide +kernel)).r
theorem z2_2 : Zr k2 2 := (Zr.r (z2_1.a.r.a.pl (by decide +kernel) (by decide +kernel))).r
theorem z2_R : ∀ i, Zr (lpR i) 2 := by
  intro i
  induction i with
  | zero => exact z2_2.x
  | succ i ih => exact ih.a.c5.r
theorem z2_7 : Zr k7 2 := (z2_R 6).a.r.r.r.a.c5.r.c7 (by decide) (by decide) (by decide) (by decide)
theorem z2_9 : Zr k9 2 := ((z2_7.a.a.pl (by decide) (by decide)).c11 (by decide)).r
theorem z2_I : ∀ i, Zr (lpI i) 2 := by
  intro i
  induction i with
  | zero => exact z2_9.x
  | succ i ih => exact (ih.a.c11 (by omega)).r
theorem z2_P : ∀ i, Zr (lpP i) 2 := by
  intro i
  induction i with
  | zero => exact (z2_I 4).a.c12.r.x
  | succ i ih => exact ih.a.c12.r
theorem z2_18 : Zr k18 2 := ((((z2_P 20).a.c13.r.a.c14 (by decide)).r.a.c16 (by decide)).r).x
theorem Zr.g {s : ST} {c a : Nat} (Z : Zr (g1 a s) c) (n : ¬ c = a) : Zr (c168 a s) c := (Z.x.x.x.x.x.x.x.x.x.i n).x.x.x.x.x.x.x.x.x.x.x.x.x.x
theorem z2_19 : Zr k19 2 := Zr.g z2_18.a.x (by decide)
theorem z257_19 : Zr k19 257 := Zr.g (Zr.nw (by decide +kernel)) (by decide)
theorem zr_a {h : AH} {c : Nat} (H : HG h k19) (Z : Zr k19 c) : aI h c = fun _ => 0 := by
  funext e
  unfold aI
  rw [H.v (v := 0) (by rw [Z.2])]
  rfl
/-- a field -/
theorem q_f {h : AH} {c k : Nat} {v : Int} (H : HG h k19) (e : k19.2.2.2.1 c k = some v) (b : -2147483648 ≤ v ∧ v < 2147483648) : fI h c k = v := by
  unfold fI
  rw [H.v e, toInt_J b]
/-- places of a row -/
theorem q_a {h : AH} {c n : Nat} {v : Int} (H : HG h k19) (e : ∀ k, k < n → k19.2.2.2.1 c k = some v) (b : -2147483648 ≤ v ∧ v < 2147483648) (hn : n ≤ 2147483648) : ∀ k : Int, 0 ≤ k → k < n → aI h c k = v := by
  intro k k0 k1
  unfold aI
  rw [tn_eq (by omega), H.v (e k.toNat (by omega)), toInt_J b]
