/-! THE CLASS: how many rooms are left, measured from all rooms at once. -/
def rkk (B : Int → Int → Prop) (k : Int) : Nat → Int → Int → Prop
  | 0, a, b => a = b
  | n + 1, a, b => ∃ c, B a c ∧ ((n = 0 ∧ c = b) ∨ (c < k ∧ rkk B k n c b))
theorem rk_wk {B : Int → Int → Prop} {k : Int} : ∀ (n : Nat) (a b : Int), rkk B k n a b → wk B n a b := by
  intro n
  induction n with
  | zero => intro a b z; exact z
  | succ n ih =>
    intro a b z
    obtain ⟨c, z1, z2⟩ := z
    rcases z2 with ⟨z2, z3⟩ | ⟨_, z3⟩
    · subst z2; exact ⟨c, z1, z3⟩
    · exact ⟨c, z1, ih c b z3⟩
theorem wk_rk {B : Int → Int → Prop} (hB : ∀ x y : Int, B x y → (0 ≤ x ∧ x < 8) ∧ 0 ≤ y ∧ y < 8) : ∀ (n : Nat) (a b : Int), wk B n a b → rkk B 8 n a b := by
  intro n
  induction n with
  | zero => intro a b z; exact z
  | succ n ih =>
    intro a b z
    obtain ⟨c, z1, z2⟩ := z
    exact ⟨c, z1, Or.inr ⟨(hB _ _ z1).2.2, ih c b z2⟩⟩
theorem rk_st {B : Int → Int → Prop} {k : Int} : ∀ (n : Nat) (a b : Int), rkk B (k + 1) n a b → rkk B k n a b ∨ ∃ n1 n2 : Nat, n1 + n2 ≤ n ∧ rkk B k n1 a k ∧ rkk B k n2 k b := by
  intro n
  induction n with
  | zero => intro a b z; exact Or.inl z
  | succ n ih =>
    intro a b z
    obtain ⟨c, z1, z2⟩ := z
    rcases z2 with z2 | ⟨z2, z3⟩
    · exact Or.inl ⟨c, z1, Or.inl z2⟩
    by_cases q : c = k
    · subst q
      rcases ih c b z3 with z4 | ⟨n1, n2, z4, z5, z6⟩
      · exact Or.inr ⟨1, n, by omega, ⟨c, z1, Or.inl ⟨rfl, rfl⟩⟩, z4⟩
      · exact Or.inr ⟨1, n2, by omega, ⟨c, z1, Or.inl ⟨rfl, rfl⟩⟩, z6⟩
    · rcases ih c b z3 with z4 | ⟨n1, n2, z4, z5, z6⟩
      · exact Or.inl ⟨c, z1, Or.inr ⟨by omega, z4⟩⟩
      · exact Or.inr ⟨n1 + 1, n2, by omega, ⟨c, z1, Or.inr ⟨by omega, z5⟩⟩, z6⟩
theorem wk_ap {B : Int → Int → Prop} : ∀ (n m : Nat) (a b c : Int), wk B n a b → wk B m b c → wk B (n + m) a c := by
  intro n
  induction n with
  | zero => intro m a b c x y; cases x; rw [Nat.zero_add]; exact y
  | succ n ih =>
    intro m a b c x y
    obtain ⟨e, x1, x2⟩ := x
    rw [show n + 1 + m = (n + m) + 1 by omega]
    exact ⟨e, x1, ih m e b c x2 y⟩
def FW (B : Int → Int → Prop) (k : Int) (D : Int → Int → Int) : Prop := ∀ x y : Int, 0 ≤ x → x < 8 → 0 ≤ y → y < 8 → (0 ≤ D x y ∧ D x y ≤ 99) ∧ (D x y < 99 → wk B (D x y).toNat x y) ∧ ∀ n : Nat, rkk B k n x y → D x y ≤ n
theorem FW.z {B : Int → Int → Prop} {k : Int} {D : Int → Int → Int} (F : FW B k D) {x : Int} (hx : 0 ≤ x ∧ x < 8) : D x x = 0 := by
  have := F x x hx.1 hx.2 hx.1 hx.2
  have := this.2.2 0 rfl
  omega
theorem FW.ls {B : Int → Int → Prop} {D : Int → Int → Int} (hB : ∀ x y : Int, B x y → (0 ≤ x ∧ x < 8) ∧ 0 ≤ y ∧ y < 8) (F : FW B 8 D) {x y : Int} (hx : 0 ≤ x ∧ x < 8) (hy : 0 ≤ y ∧ y < 8) : IsL (fun n => wk B n x y) (D x y) := by
  have f := F x y hx.1 hx.2 hy.1 hy.2
  exact ⟨f.1, f.2.1, fun n z => f.2.2 n (wk_rk hB n x y z)⟩
theorem FW.b {B : Int → Int → Prop} {D : Int → Int → Int} (hB : ∀ x y : Int, B x y → (0 ≤ x ∧ x < 8) ∧ 0 ≤ y ∧ y < 8) (h : ∀ x y : Int, 0 ≤ x → x < 8 → 0 ≤ y → y < 8 → (x = y ∧ D x y = 0) ∨ (¬ x = y ∧ ((B x y ∧ D x y = 1) ∨ (¬ B x y ∧ D x y = 99)))) : FW B 0 D := by
  intro x y x0 x1 y0 y1
  rcases h x y x0 x1 y0 y1 with ⟨e, v⟩ | ⟨e, o⟩
  · rw [v]
    exact ⟨by omega, fun _ => e, fun n _ => by omega⟩
  · have e1 : ∀ n : Nat, rkk B 0 n x y → 1 ≤ n ∧ B x y := by
      intro n z
      cases n with
      | zero => exact absurd z e
      | succ n =>
        obtain ⟨c, z1, z2⟩ := z
        rcases z2 with ⟨z2, z3⟩ | ⟨z2, _⟩
        · rw [← z3]; exact ⟨by omega, z1⟩
        · have := hB _ _ z1; omega
    rcases o with ⟨b, v⟩ | ⟨b, v⟩
    · rw [v]
      exact ⟨by omega, fun _ => ⟨y, b, rfl⟩, fun n z => by have := e1 n z; omega⟩
    · rw [v]
      exact ⟨by omega, fun z => by omega, fun n z => absurd (e1 n z).2 b⟩
/-- D after the round of room k -/
def fwm (D : Int → Int → Int) (k x y : Int) : Int := if D x k + D k y < D x y then D x k + D k y else D x y
theorem FW.st {B : Int → Int → Prop} {k : Int} {D : Int → Int → Int} (F : FW B k D) (hk : 0 ≤ k ∧ k < 8) : FW B (k + 1) (fwm D k) := by
  intro x y x0 x1 y0 y1
  have fx := F x k x0 x1 hk.1 hk.2
  have fy := F k y hk.1 hk.2 y0 y1
  have f := F x y x0 x1 y0 y1
  have lo : ∀ n : Nat, rkk B (k + 1) n x y → D x y ≤ n ∨ D x k + D k y ≤ n := by
    intro n z
    rcases rk_st n x y z with z | ⟨n1, n2, z1, z2, z3⟩
    · exact Or.inl (f.2.2 n z)
    · have := fx.2.2 n1 z2
      have := fy.2.2 n2 z3
      exact Or.inr (by omega)
  unfold fwm
  split
  · rename_i l
    refine ⟨by omega, fun z => ?_, fun n z => ?_⟩
    · rw [show (D x k + D k y).toNat = (D x k).toNat + (D k y).toNat by omega]
      exact wk_ap _ _ _ _ _ (fx.2.1 (by omega)) (fy.2.1 (by omega))
    · have := lo n z; omega
  · rename_i l
    refine ⟨f.1, f.2.1, fun n z => ?_⟩
    have := lo n z; omega
theorem fwm_c {D : Int → Int → Int} {k x : Int} (z : D k k = 0) : fwm D k x k = D x k := by
  unfold fwm
  rw [z]
  split <;> omega
theorem fwm_r {D : Int → Int → Int} {k y : Int} (z : D k k = 0) : fwm D k k y = D k y := by
  unfold fwm
  rw [z]
  split <;> omega
theorem fwm_lt {D : Int → Int → Int} {k x y : Int} (l : D x k + D k y < D x y) : fwm D k x y = D x k + D k y := by unfold fwm; rw [if_pos l]
theorem fwm_ge {D : Int → Int → Int} {k x y : Int} (l : ¬ D x k + D k y < D x y) : fwm D k x y = D x y := by unfold fwm; rw [if_neg l]
theorem wk_cg {A B : Int → Int → Prop} (e : ∀ x y, A x y ↔ B x y) : ∀ (n : Nat) (a b : Int), wk A n a b ↔ wk B n a b := by
  intro n
  induction n with
  | zero => intro a b; exact Iff.rfl
  | succ n ih =>
    intro a b
    constructor
    · rintro ⟨c, x, y⟩; exact ⟨c, (e _ _).mp x, (ih c b).mp y⟩
    · rintro ⟨c, x, y⟩; exact ⟨c, (e _ _).mpr x, (ih c b).mpr y⟩
/-- what the class measures by -/
def bsR (h : AH) (a : Nat) (r x y : Int) : Prop := ((0 ≤ x ∧ x < 8) ∧ 0 ≤ y ∧ y < 8) ∧ ¬ aI h (a + 7) (x * 8 + y) = -1 ∧ bt (aI h (a + 8) r) (aI h (a + 7) (x * 8 + y))
-- OutwardDoors$Plan.isBeside(III)Z at 0
set_option maxRecDepth 20000 in
set_option maxHeartbeats 4000000 in
theorem r51b {X : Cst} {d : Nat} {a : Nat} {x1 : Int} {x2 : Int} {x3 : Int} {h : AH} {Q : Post} (C_h : Lay h) (K_h_0 : PlanAt h a) (hd : 1 ≤ d)
  (w : (0 ≤ x2 * 8 + x3 ∧ x2 * 8 + x3 < 64) ∧ ((aI h (a + 7) (x2 * 8 + x3) = (-1) → Q (some (.int (J 0))) h) ∧ (¬ aI h (a + 7) (x2 * 8 + x3) = (-1) → Ex X PG d 52 0 [some (.ref a), some (.int (J x1)), some (.int (J (aI h (a + 7) (x2 * 8 + x3))))] [] h (fun v7 h8 => ∃ r9 : Int, (-2147483648 ≤ r9 ∧ r9 < 2147483648) ∧ v7 = some (.int (J r9)) ∧ SH h h8 ∧ ((r9 = 0 → Q (some (.int (J 0))) h8) ∧ (¬ r9 = 0 → Q (some (.int (J 1))) h8)))))) :
    Ex X PG (d + 1) 51 0 [some (.ref a), some (.int (J x1)), some (.int (J x2)), some (.int (J x3)), none] [] h Q := by
  refine wpx_ok (cut := []) 16 d 51 0 _ _ _ _ ?_
  show hs h a = (0, 2) ∧ Ex X PG d 42 0 [some (.ref a), some (.int (J x2)), some (.int (J x3))] [] h (fun v1 h2 => ∃ r3, v1 = some (.int r3) ∧ ((r3 = (J (-1)) → (J 0 = J 0 ∨ J 0 = J 1) ∧ Q (some (.int (J 0))) h2) ∧ (¬ (r3 = (J (-1))) → hs h2 a = (0, 2) ∧ Ex X PG d 52 0 [some (.ref a), some (.int (J x1)), some (.int r3)] [] h2 (fun v7 h8 => ∃ r9, v7 = some (.int r9) ∧ ((r9 = (J 0) → (J 0 = J 0 ∨ J 0 = J 1) ∧ Q (some (.int (J 0))) h8) ∧ (¬ (r9 = (J 0)) → (J 1 = J 0 ∨ J 1 = J 1) ∧ Q (some (.int (J 1))) h8))))))
  try simp only [aI_wAL, fI_wAL, aL_wA, aL_wF, aI_wA_ne, aI_wF_ne, fI_wA_ne, fI_wF_ne, fI_wF_nk, aL_wAL_ne, J_sameA, J_sameF, aL_same, Nat.add_left_cancel_iff, Nat.add_eq_left, Nat.left_eq_add, not_false_eq_true, Nat.reduceEqDiff, Nat.reduceAdd, J_add, J_sub, J_mul, J_neg, J_and, J_or, J_xor, J_shl, J_shr, J_div, J_i2b, J_i2l, J_l2i, J_lcm, J_max, J_min, J_nab, J_nao, rdA, rdF, rdL, wA_fold, wF_fold, wL_fold, wC_fold]
  refine ⟨(plan_0 K_h_0), ?_⟩
  obtain ⟨k4, w⟩ := w
  refine m42 (h := h) (a := a) (x := x2) (y := x3) C_h K_h_0 (by omega) k4 ?_
  refine ⟨_, rfl, ?_⟩
  try simp only [aI_wAL, fI_wAL, aL_wA, aL_wF, aI_wA_ne, aI_wF_ne, fI_wA_ne, fI_wF_ne, fI_wF_nk, aL_wAL_ne, J_sameA, J_sameF, aL_same, Nat.add_left_cancel_iff, Nat.add_eq_left, Nat.left_eq_add, not_false_eq_true, Nat.reduceEqDiff, Nat.reduceAdd, J_add, J_sub, J_mul, J_neg, J_and, J_or, J_xor, J_shl, J_shr, J_div, J_i2b, J_i2l, J_l2i, J_lcm, J_max, J_min, J_nab, J_nao, rdA, rdF, rdL, wA_fold, wF_fold, wL_fold, wC_fold]
  refine ⟨fun c5 => ?_, fun c5 => ?_⟩
  · have t6 : aI h (a + 7) (x2 * 8 + x3) = (-1) := ((Jeq (rg_toInt _) (by decide)).mp c5)
    replace w := w.1 t6
    exact ⟨(Or.inl (by trivial)), w⟩
  · have t6 : ¬ aI h (a + 7) (x2 * 8 + x3) = (-1) := (fun e => c5 ((Jeq (rg_toInt _) (by decide)).mpr e))
    replace w := w.2 t6
    refine ⟨(plan_0 K_h_0), ?_⟩
    refine Ex.mono w (Nat.le_refl _) ?_
    rintro v7 h8 ⟨r9, gr9, rfl, s12, w⟩
    refine ⟨_, rfl, ?_⟩
    have C_h8 := Lay_SH s12 C_h
    have K_h8_0 := PlanAt_SH s12 K_h_0
    try simp only [aI_wAL, fI_wAL, aL_wA, aL_wF, aI_wA_ne, aI_wF_ne, fI_wA_ne, fI_wF_ne, fI_wF_nk, aL_wAL_ne, J_sameA, J_sameF, aL_same, Nat.add_left_cancel_iff, Nat.add_eq_left, Nat.left_eq_add, not_false_eq_true, Nat.reduceEqDiff, Nat.reduceAdd, J_add, J_sub, J_mul, J_neg, J_and, J_or, J_xor, J_shl, J_shr, J_div, J_i2b, J_i2l, J_l2i, J_lcm, J_max, J_min, J_nab, J_nao, rdA, rdF, rdL, wA_fold, wF_fold, wL_fold, wC_fold]
    refine ⟨fun c10 => ?_, fun c10 => ?_⟩
    · have t11 : r9 = 0 := ((Jeq gr9 (by decide)).mp c10)
      replace w := w.1 t11
      exact ⟨(Or.inl (by trivial)), w⟩
    · have t11 : ¬ r9 = 0 := (fun e => c10 ((Jeq gr9 (by decide)).mpr e))
      replace w := w.2 t11
      exact ⟨(Or.inr (by trivial)), w⟩
theorem m51b {X : Cst} {d a : Nat} {r x y : Int} {h : AH} {Q : Post} (C : Lay h) (K : PlanAt h a) (hd : 2 ≤ d) (hr : 0 ≤ r ∧ r < 2) (hx : 0 ≤ x ∧ x < 8) (hy : 0 ≤ y ∧ y < 8) (h7 : -1 ≤ aI h (a + 7) (x * 8 + y) ∧ aI h (a + 7) (x * 8 + y) < 14) (h8 : 0 ≤ aI h (a + 8) r ∧ aI h (a + 8) r < 16384)
    (k1 : bsR h a r x y → Q (some (.int (J 1))) h) (k0 : ¬ bsR h a r x y → Q (some (.int (J 0))) h) : Ex X PG d 51 0 [some (.ref a), some (.int (J r)), some (.int (J x)), some (.int (J y)), none] [] h Q := by
  obtain ⟨d, rfl⟩ : ∃ e, d = e + 2 := ⟨d - 2, by omega⟩
  refine r51b C K (by omega) ⟨by omega, fun c => k0 (fun z => z.2.1 c), fun c => ?_⟩
  have bi := isof_iff (s := aI h (a + 8) r) (k := aI h (a + 7) (x * 8 + y)) (by omega) (by omega)
  refine r52_0 C K ⟨hr, fun c2 => ?_, fun c2 => ?_⟩
  · exact ⟨0, by omega, rfl, SH.rf, fun _ => k0 (fun z => c2 (bi.mpr z.2.2)), fun z => absurd rfl z⟩
  · exact ⟨1, by omega, rfl, SH.rf, fun z => absurd z (by decide), fun _ => k1 ⟨⟨hx, hy⟩, c, bi.mp c2⟩⟩
def Mt (h : AH) (a : Nat) (r x y : Int) : Int := aI h (a + 10) ((r * 8 + x) * 8 + y)
def LfO (h h' : AH) (a : Nat) (r : Int) : Prop := Fr (fun c _ => c = a + 10) h h' ∧ ∀ q x y : Int, 0 ≤ q → q < 2 → ¬ q = r → 0 ≤ x → x < 8 → 0 ≤ y → y < 8 → Mt h' a q x y = Mt h a q x y
theorem Mt_eq {h : AH} {a : Nat} {r x y v : Int} (hv : -2147483648 ≤ v ∧ v < 2147483648) : Mt (wA h (a + 10) ((r * 8 + x) * 8 + y) v) a r x y = v := by
  unfold Mt
  rw [aI_wA hv, uu_eq]
theorem Mt_ne {h : AH} {a : Nat} {r x y v q u w : Int} (hv : -2147483648 ≤ v ∧ v < 2147483648) (hr : 0 ≤ r ∧ r < 2) (hx : 0 ≤ x ∧ x < 8) (hy : 0 ≤ y ∧ y < 8) (hq : 0 ≤ q ∧ q < 2) (hu : 0 ≤ u ∧ u < 8) (hw : 0 ≤ w ∧ w < 8) (n : ¬ (q = r ∧ u = x ∧ w = y)) : Mt (wA h (a + 10) ((r * 8 + x) * 8 + y) v) a q u w = Mt h a q u w := by
  unfold Mt
  rw [aI_wA hv, uu_ne (by omega) (by omega) (by omega)]
theorem LfO.w {h h' : AH} {a : Nat} {r x y v : Int} (L : LfO h h' a r) (hv : -2147483648 ≤ v ∧ v < 2147483648) (hr : 0 ≤ r ∧ r < 2) (hx : 0 ≤ x ∧ x < 8) (hy : 0 ≤ y ∧ y < 8) : LfO h (wA h' (a + 10) ((r * 8 + x) * 8 + y) v) a r :=
  ⟨L.1.wA rfl, fun q u w q0 q1 qn u0 u1 w0 w1 => by rw [Mt_ne hv hr hx hy ⟨q0, q1⟩ ⟨u0, u1⟩ ⟨w0, w1⟩ (by omega)]; exact L.2 q u w q0 q1 qn u0 u1 w0 w1⟩
-- OutwardDoors$Plan.measure(I)V at 0
set_option maxRecDepth 20000 in
set_option maxHeartbeats 4000000 in
theorem r50_0 {X : Cst} {d : Nat} {a : Nat} {x1 : Int} {h : AH} {Q : Post} (C_h : Lay h) (K_h_0 : PlanAt h a)
  (w : Ex X PG (d + 1) 50 2 [some (.ref a), some (.int (J x1)), some (.int (J 0)), none, none, none] [] h Q) :
    Ex X PG (d + 1) 50 0 [some (.ref a), some (.int (J x1)), none, none, none, none] [] h Q := by
  refine wpx_ok (cut := [2, 10, 70, 78, 87]) 2 d 50 0 _ _ _ _ ?_
  show Ex X PG (d + 1) 50 2 [some (.ref a), some (.int (J x1)), some (.int (J 0)), none, none, none] [] h Q
  try simp only [aI_wAL, fI_wAL, aL_wA, aL_wF, aI_wA_ne, aI_wF_ne, fI_wA_ne, fI_wF_ne, fI_wF_nk, aL_wAL_ne, J_sameA, J_sameF, aL_same, Nat.add_left_cancel_iff, Nat.add_eq_left, Nat.left_eq_add, not_false_eq_true, Nat.reduceEqDiff, Nat.reduceAdd, J_add, J_sub, J_mul, J_neg, J_and, J_or, J_xor, J_shl, J_shr, J_div, J_i2b, J_i2l, J_l2i, J_lcm, J_max, J_min, J_nab, J_nao, rdA, rdF, rdL, wA_fold, wF_fold, wL_fold, wC_fold]
  exact w
-- OutwardDoors$Plan.measure(I)V at 2
set_option maxRecDepth 20000 in
set_option maxHeartbeats 4000000 in
theorem r50_2 {X : Cst} {d : Nat} {a : Nat} {x1 : Int} {x2 : Int} {l3 : Option Value} {l4 : Option Value} {l5 : Option Value} {h : AH} {Q : Post} (C_h : Lay h) (K_h_0 : PlanAt h a)
  (w : (-2147483648 ≤ x2 ∧ x2 < 2147483648) ∧ ((8 ≤ x2 → Ex X PG (d + 1) 50 70 [some (.ref a), some (.int (J x1)), some (.int (J 0)), l3, l4, l5] [] h Q) ∧ (¬ 8 ≤ x2 → Ex X PG (d + 1) 50 10 [some (.ref a), some (.int (J x1)), some (.int (J x2)), some (.int (J 0)), l4, l5] [] h Q))) :
    Ex X PG (d + 1) 50 2 [some (.ref a), some (.int (J x1)), some (.int (J x2)), l3, l4, l5] [] h Q := by
  refine wpx_ok (cut := [2, 10, 70, 78, 87]) 5 d 50 2 _ _ _ _ ?_
  show (((J 8) ≤ (J x2) → Ex X PG (d + 1) 50 70 [some (.ref a), some (.int (J x1)), some (.int (J 0)), l3, l4, l5] [] h Q) ∧ (¬ ((J 8) ≤ (J x2)) → Ex X PG (d + 1) 50 10 [some (.ref a), some (.int (J x1)), some (.int (J x2)), some (.int (J 0)), l4, l5] [] h Q))
  try simp only [aI_wAL, fI_wAL, aL_wA, aL_wF, aI_wA_ne, aI_wF_ne, fI_wA_ne, fI_wF_ne, fI_wF_nk, aL_wAL_ne, J_sameA, J_sameF, aL_same, Nat.add_left_cancel_iff, Nat.add_eq_left, Nat.left_eq_add, not_false_eq_true, Nat.reduceEqDiff, Nat.reduceAdd, J_add, J_sub, J_mul, J_neg, J_and, J_or, J_xor, J_shl, J_shr, J_div, J_i2b, J_i2l, J_l2i, J_lcm, J_max, J_min, J_nab, J_nao, rdA, rdF, rdL, wA_fold, wF_fold, wL_fold, wC_fold]
  obtain ⟨k3, w⟩ := w
  refine ⟨fun c1 => ?_, fun c1 => ?_⟩
  · have t2 : 8 ≤ x2 := ((Jle (by decide) k3).mp c1)
    replace w := w.1 t2
    exact w
  · have t2 : ¬ 8 ≤ x2 := (fun e => c1 ((Jle (by decide) k3).mpr e))
    replace w := w.2 t2
    exact w
-- OutwardDoors$Plan.measure(I)V at 10
set_option maxRecDepth 20000 in
set_option maxHeartbeats 4000000 in
theorem r50_10 {X : Cst} {d : Nat} {a : Nat} {x1 : Int} {x2 : Int} {x3 : Int} {l4 : Option Value} {l5 : Option Value} {h : AH} {Q : Post} (C_h : Lay h) (K_h_0 : PlanAt h a) (hd : 1 ≤ d)
  (w : (-2147483648 ≤ x3 ∧ x3 < 2147483648) ∧ ((8 ≤ x3 → Ex X PG (d + 1) 50 2 [some (.ref a), some (.int (J x1)), some (.int (J (x2 + 1))), some (.int (J x3)), l4, l5] [] h Q) ∧ (¬ 8 ≤ x3 → Ex X PG d 51 0 [some (.ref a), some (.int (J x1)), some (.int (J x2)), some (.int (J x3)), none] [] h (fun v4 h5 => ∃ r6 : Int, (-2147483648 ≤ r6 ∧ r6 < 2147483648) ∧ v4 = some (.int (J r6)) ∧ SH h h5 ∧ ((r6 = 0 → (-2147483648 ≤ x2 ∧ x2 < 2147483648) ∧ ((¬ x2 = x3 → (0 ≤ (x1 * 8 + x2) * 8 + x3 ∧ (x1 * 8 + x2) * 8 + x3 < 128) ∧ Ex X PG (d + 1) 50 10 [some (.ref a), some (.int (J x1)), some (.int (J x2)), some (.int (J (x3 + 1))), some (.int (J 99)), l5] [] (wA h5 (a + 10) ((x1 * 8 + x2) * 8 + x3) 99) Q) ∧ (x2 = x3 → (0 ≤ (x1 * 8 + x2) * 8 + x3 ∧ (x1 * 8 + x2) * 8 + x3 < 128) ∧ Ex X PG (d + 1) 50 10 [some (.ref a), some (.int (J x1)), some (.int (J x2)), some (.int (J (x3 + 1))), some (.int (J 99)), l5] [] (wA h5 (a + 10) ((x1 * 8 + x2) * 8 + x3) 0) Q))) ∧ (¬ r6 = 0 → (-2147483648 ≤ x2 ∧ x2 < 2147483648) ∧ ((¬ x2 = x3 → (0 ≤ (x1 * 8 + x2) * 8 + x3 ∧ (x1 * 8 + x2) * 8 + x3 < 128) ∧ Ex X PG (d + 1) 50 10 [some (.ref a), some (.int (J x1)), some (.int (J x2)), some (.int (J (x3 + 1))), some (.int (J 1)), l5] [] (wA h5 (a + 10) ((x1 * 8 + x2) * 8 + x3) 1) Q) ∧ (x2 = x3 → (0 ≤ (x1 * 8 + x2) * 8 + x3 ∧ (x1 * 8 + x2) * 8 + x3 < 128) ∧ Ex X PG (d + 1) 50 10 [some (.ref a), some (.int (J x1)), some (.int (J x2)), some (.int (J (x3 + 1))), some (.int (J 1)), l5] [] (wA h5 (a + 10) ((x1 * 8 + x2) * 8 + x3) 0) Q)))))))) :
    Ex X PG (d + 1) 50 10 [some (.ref a), some (.int (J x1)), some (.int (J x2)), some (.int (J x3)), l4, l5] [] h Q := by
  refine wpx_ok (cut := [2, 10, 70, 78, 87]) 26 d 50 10 _ _ _ _ ?_
  show (((J 8) ≤ (J x3) → Ex X PG (d + 1) 50 2 [some (.ref a), some (.int (J x1)), some (.int ((J x2) + (J 1))), some (.int (J x3)), l4, l5] [] h Q) ∧ (¬ ((J 8) ≤ (J x3)) → hs h a = (0, 2) ∧ Ex X PG d 51 0 [some (.ref a), some (.int (J x1)), some (.int (J x2)), some (.int (J x3)), none] [] h (fun v4 h5 => ∃ r6, v4 = some (.int r6) ∧ ((r6 = (J 0) → hs h5 a = (0, 2) ∧ ∃ q9, hR h5 a 15 = some q9 ∧ Ex X PG d 53 0 [some (.int (J x1)), some (.int (J x2)), some (.int (J x3))] [] h5 (fun v10 h11 => ∃ r12, v10 = some (.int r12) ∧ ((¬ (J x2) = (J x3) → (hs h11 q9).1 = 1 ∧ ix r12 (hs h11 q9).2 ∧ Ex X PG (d + 1) 50 10 [some (.ref a), some (.int (J x1)), some (.int (J x2)), some (.int ((J x3) + (J 1))), some (.int (J 99)), l5] [] (wI h11 q9 (Int32.toNatClampNeg r12) (J 99)) Q) ∧ (¬ (¬ (J x2) = (J x3)) → (hs h11 q9).1 = 1 ∧ ix r12 (hs h11 q9).2 ∧ Ex X PG (d + 1) 50 10 [some (.ref a), some (.int (J x1)), some (.int (J x2)), some (.int ((J x3) + (J 1))), some (.int (J 99)), l5] [] (wI h11 q9 (Int32.toNatClampNeg r12) (J 0)) Q)))) ∧ (¬ (r6 = (J 0)) → hs h5 a = (0, 2) ∧ ∃ q18, hR h5 a 15 = some q18 ∧ Ex X PG d 53 0 [some (.int (J x1)), some (.int (J x2)), some (.int (J x3))] [] h5 (fun v19 h20 => ∃ r21, v19 = some (.int r21) ∧ ((¬ (J x2) = (J x3) → (hs h20 q18).1 = 1 ∧ ix r21 (hs h20 q18).2 ∧ Ex X PG (d + 1) 50 10 [some (.ref a), some (.int (J x1)), some (.int (J x2)), some (.int ((J x3) + (J 1))), some (.int (J 1)), l5] [] (wI h20 q18 (Int32.toNatClampNeg r21) (J 1)) Q) ∧ (¬ (¬ (J x2) = (J x3)) → (hs h20 q18).1 = 1 ∧ ix r21 (hs h20 q18).2 ∧ Ex X PG (d + 1) 50 10 [some (.ref a), some (.int (J x1)), some (.int (J x2)), some (.int ((J x3) + (J 1))), some (.int (J 1)), l5] [] (wI h20 q18 (Int32.toNatClampNeg r21) (J 0)) Q))))))))
  try simp only [aI_wAL, fI_wAL, aL_wA, aL_wF, aI_wA_ne, aI_wF_ne, fI_wA_ne, fI_wF_ne, fI_wF_nk, aL_wAL_ne, J_sameA, J_sameF, aL_same, Nat.add_left_cancel_iff, Nat.add_eq_left, Nat.left_eq_add, not_false_eq_true, Nat.reduceEqDiff, Nat.reduceAdd, J_add, J_sub, J_mul, J_neg, J_and, J_or, J_xor, J_shl, J_shr, J_div, J_i2b, J_i2l, J_l2i, J_lcm, J_max, J_min, J_nab, J_nao, rdA, rdF, rdL, wA_fold, wF_fold, wL_fold, wC_fold]
  obtain ⟨k3, w⟩ := w
  refine ⟨fun c1 => ?_, fun c1 => ?_⟩
  · have t2 : 8 ≤ x3 := ((Jle (by decide) k3).mp c1)
    replace w := w.1 t2
    exact w
  · have t2 : ¬ 8 ≤ x3 := (fun e => c1 ((Jle (by decide) k3).mpr e))
    replace w := w.2 t2
    refine ⟨(plan_0 K_h_0), ?_⟩
    refine Ex.mono w (Nat.le_refl _) ?_
    rintro v4 h5 ⟨r6, gr6, rfl, s27, w⟩
    refine ⟨_, rfl, ?_⟩
    have C_h5 := Lay_SH s27 C_h
    have K_h5_0 := PlanAt_SH s27 K_h_0
    try simp only [aI_wAL, fI_wAL, aL_wA, aL_wF, aI_wA_ne, aI_wF_ne, fI_wA_ne, fI_wF_ne, fI_wF_nk, aL_wAL_ne, J_sameA, J_sameF, aL_same, Nat.add_left_cancel_iff, Nat.add_eq_left, Nat.left_eq_add, not_false_eq_true, Nat.reduceEqDiff, Nat.reduceAdd, J_add, J_sub, J_mul, J_neg, J_and, J_or, J_xor, J_shl, J_shr, J_div, J_i2b, J_i2l, J_l2i, J_lcm, J_max, J_min, J_nab, J_nao, rdA, rdF, rdL, wA_fold, wF_fold, wL_fold, wC_fold]
    refine ⟨fun c7 => ?_, fun c7 => ?_⟩
    · have t8 : r6 = 0 := ((Jeq gr6 (by decide)).mp c7)
      replace w := w.1 t8
      refine ⟨(plan_0 K_h5_0), _, (plan_20 K_h5_0), ?_⟩
      refine m53 (h := h5) (r := x1) (x := x2) (y := x3) C_h5 (by omega)  ?_
      refine ⟨_, rfl, ?_⟩
      try simp only [aI_wAL, fI_wAL, aL_wA, aL_wF, aI_wA_ne, aI_wF_ne, fI_wA_ne, fI_wF_ne, fI_wF_nk, aL_wAL_ne, J_sameA, J_sameF, aL_same, Nat.add_left_cancel_iff, Nat.add_eq_left, Nat.left_eq_add, not_false_eq_true, Nat.reduceEqDiff, Nat.reduceAdd, J_add, J_sub, J_mul, J_neg, J_and, J_or, J_xor, J_shl, J_shr, J_div, J_i2b, J_i2l, J_l2i, J_lcm, J_max, J_min, J_nab, J_nao, rdA, rdF, rdL, wA_fold, wF_fold, wL_fold, wC_fold]
      obtain ⟨k15, w⟩ := w
      refine ⟨fun c13 => ?_, fun c13 => ?_⟩
      · have t14 : ¬ x2 = x3 := (fun e => c13 ((Jeq k15 k3).mpr e))
        replace w := w.1 t14
        obtain ⟨k16, w⟩ := w
        refine ⟨congrArg Prod.fst (plan_10 K_h5_0), ixs (plan_10 K_h5_0) k16 (by decide), ?_⟩
        exact w
      · have t14 : x2 = x3 := ((Jeq k15 k3).mp (Classical.byContradiction c13))
        replace w := w.2 t14
        obtain ⟨k17, w⟩ := w
        refine ⟨congrArg Prod.fst (plan_10 K_h5_0), ixs (plan_10 K_h5_0) k17 (by decide), ?_⟩
        exact w
    · have t8 : ¬ r6 = 0 := (fun e => c7 ((Jeq gr6 (by decide)).mpr e))
      replace w := w.2 t8
      refine ⟨(plan_0 K_h5_0), _, (plan_20 K_h5_0), ?_⟩
      refine m53 (h := h5) (r := x1) (x := x2) (y := x3) C_h5 (by omega)  ?_
      refine ⟨_, rfl, ?_⟩
      try simp only [aI_wAL, fI_wAL, aL_wA, aL_wF, aI_wA_ne, aI_wF_ne, fI_wA_ne, fI_wF_ne, fI_wF_nk, aL_wAL_ne, J_sameA, J_sameF, aL_same, Nat.add_left_cancel_iff, Nat.add_eq_left, Nat.left_eq_add, not_false_eq_true, Nat.reduceEqDiff, Nat.reduceAdd, J_add, J_sub, J_mul, J_neg, J_and, J_or, J_xor, J_shl, J_shr, J_div, J_i2b, J_i2l, J_l2i, J_lcm, J_max, J_min, J_nab, J_nao, rdA, rdF, rdL, wA_fold, wF_fold, wL_fold, wC_fold]
      obtain ⟨k24, w⟩ := w
      refine ⟨fun c22 => ?_, fun c22 => ?_⟩
      · have t23 : ¬ x2 = x3 := (fun e => c22 ((Jeq k24 k3).mpr e))
        replace w := w.1 t23
        obtain ⟨k25, w⟩ := w
        refine ⟨congrArg Prod.fst (plan_10 K_h5_0), ixs (plan_10 K_h5_0) k25 (by decide), ?_⟩
        exact w
      · have t23 : x2 = x3 := ((Jeq k24 k3).mp (Classical.byContradiction c22))
        replace w := w.2 t23
        obtain ⟨k26, w⟩ := w
        refine ⟨congrArg Prod.fst (plan_10 K_h5_0), ixs (plan_10 K_h5_0) k26 (by decide), ?_⟩
        exact w
-- OutwardDoors$Plan.measure(I)V at 70
set_option maxRecDepth 20000 in
set_option maxHeartbeats 4000000 in
theorem r50_70 {X : Cst} {d : Nat} {a : Nat} {x1 : Int} {x2 : Int} {l3 : Option Value} {l4 : Option Value} {l5 : Option Value} {h : AH} {Q : Post} (C_h : Lay h) (K_h_0 : PlanAt h a)
  (w : (-2147483648 ≤ x2 ∧ x2 < 2147483648) ∧ ((8 ≤ x2 → Q none h) ∧ (¬ 8 ≤ x2 → Ex X PG (d + 1) 50 78 [some (.ref a), some (.int (J x1)), some (.int (J x2)), some (.int (J 0)), l4, l5] [] h Q))) :
    Ex X PG (d + 1) 50 70 [some (.ref a), some (.int (J x1)), some (.int (J x2)), l3, l4, l5] [] h Q := by
  refine wpx_ok (cut := [2, 10, 70, 78, 87]) 5 d 50 70 _ _ _ _ ?_
  show (((J 8) ≤ (J x2) → Q none h) ∧ (¬ ((J 8) ≤ (J x2)) → Ex X PG (d + 1) 50 78 [some (.ref a), some (.int (J x1)), some (.int (J x2)), some (.int (J 0)), l4, l5] [] h Q))
  try simp only [aI_wAL, fI_wAL, aL_wA, aL_wF, aI_wA_ne, aI_wF_ne, fI_wA_ne, fI_wF_ne, fI_wF_nk, aL_wAL_ne, J_sameA, J_sameF, aL_same, Nat.add_left_cancel_iff, Nat.add_eq_left, Nat.left_eq_add, not_false_eq_true, Nat.reduceEqDiff, Nat.reduceAdd, J_add, J_sub, J_mul, J_neg, J_and, J_or, J_xor, J_shl, J_shr, J_div, J_i2b, J_i2l, J_l2i, J_lcm, J_max, J_min, J_nab, J_nao, rdA, rdF, rdL, wA_fold, wF_fold, wL_fold, wC_fold]
  obtain ⟨k3, w⟩ := w
  refine ⟨fun c1 => ?_, fun c1 => ?_⟩
  · have t2 : 8 ≤ x2 := ((Jle (by decide) k3).mp c1)
    replace w := w.1 t2
    exact w
  · have t2 : ¬ 8 ≤ x2 := (fun e => c1 ((Jle (by decide) k3).mpr e))
    replace w := w.2 t2
    exact w
-- OutwardDoors$Plan.measure(I)V at 78
set_option maxRecDepth 20000 in
set_option maxHeartbeats 4000000 in
theorem r50_78 {X : Cst} {d : Nat} {a : Nat} {x1 : Int} {x2 : Int} {x3 : Int} {l4 : Option Value} {l5 : Option Value} {h : AH} {Q : Post} (C_h : Lay h) (K_h_0 : PlanAt h a)
  (w : (-2147483648 ≤ x3 ∧ x3 < 2147483648) ∧ ((8 ≤ x3 → Ex X PG (d + 1) 50 70 [some (.ref a), some (.int (J x1)), some (.int (J (x2 + 1))), some (.int (J x3)), l4, l5] [] h Q) ∧ (¬ 8 ≤ x3 → Ex X PG (d + 1) 50 87 [some (.ref a), some (.int (J x1)), some (.int (J x2)), some (.int (J x3)), some (.int (J 0)), l5] [] h Q))) :
    Ex X PG (d + 1) 50 78 [some (.ref a), some (.int (J x1)), some (.int (J x2)), some (.int (J x3)), l4, l5] [] h Q := by
  refine wpx_ok (cut := [2, 10, 70, 78, 87]) 5 d 50 78 _ _ _ _ ?_
  show (((J 8) ≤ (J x3) → Ex X PG (d + 1) 50 70 [some (.ref a), some (.int (J x1)), some (.int ((J x2) + (J 1))), some (.int (J x3)), l4, l5] [] h Q) ∧ (¬ ((J 8) ≤ (J x3)) → Ex X PG (d + 1) 50 87 [some (.ref a), some (.int (J x1)), some (.int (J x2)), some (.int (J x3)), some (.int (J 0)), l5] [] h Q))
  try simp only [aI_wAL, fI_wAL, aL_wA, aL_wF, aI_wA_ne, aI_wF_ne, fI_wA_ne, fI_wF_ne, fI_wF_nk, aL_wAL_ne, J_sameA, J_sameF, aL_same, Nat.add_left_cancel_iff, Nat.add_eq_left, Nat.left_eq_add, not_false_eq_true, Nat.reduceEqDiff, Nat.reduceAdd, J_add, J_sub, J_mul, J_neg, J_and, J_or, J_xor, J_shl, J_shr, J_div, J_i2b, J_i2l, J_l2i, J_lcm, J_max, J_min, J_nab, J_nao, rdA, rdF, rdL, wA_fold, wF_fold, wL_fold, wC_fold]
  obtain ⟨k3, w⟩ := w
  refine ⟨fun c1 => ?_, fun c1 => ?_⟩
  · have t2 : 8 ≤ x3 := ((Jle (by decide) k3).mp c1)
    replace w := w.1 t2
    exact w
  · have t2 : ¬ 8 ≤ x3 := (fun e => c1 ((Jle (by decide) k3).mpr e))
    replace w := w.2 t2
    exact w
-- OutwardDoors$Plan.measure(I)V at 87
set_option maxRecDepth 20000 in
set_option maxHeartbeats 4000000 in
theorem r50_87 {X : Cst} {d : Nat} {a : Nat} {x1 : Int} {x2 : Int} {x3 : Int} {x4 : Int} {l5 : Option Value} {h : AH} {Q : Post} (C_h : Lay h) (K_h_0 : PlanAt h a) (hd : 2 ≤ d)
  (w : (-2147483648 ≤ x4 ∧ x4 < 2147483648) ∧ ((8 ≤ x4 → Ex X PG (d + 1) 50 78 [some (.ref a), some (.int (J x1)), some (.int (J x2)), some (.int (J (x3 + 1))), some (.int (J x4)), l5] [] h Q) ∧ (¬ 8 ≤ x4 → (0 ≤ (x1 * 8 + x3) * 8 + x2 ∧ (x1 * 8 + x3) * 8 + x2 < 128) ∧ (0 ≤ (x1 * 8 + x2) * 8 + x4 ∧ (x1 * 8 + x2) * 8 + x4 < 128) ∧ (0 ≤ (x1 * 8 + x3) * 8 + x4 ∧ (x1 * 8 + x3) * 8 + x4 < 128) ∧ (-2147483648 ≤ (aI h (a + 10) ((x1 * 8 + x3) * 8 + x2)) + (aI h (a + 10) ((x1 * 8 + x2) * 8 + x4)) ∧ (aI h (a + 10) ((x1 * 8 + x3) * 8 + x2)) + (aI h (a + 10) ((x1 * 8 + x2) * 8 + x4)) < 2147483648) ∧ ((aI h (a + 10) ((x1 * 8 + x3) * 8 + x4) ≤ (aI h (a + 10) ((x1 * 8 + x3) * 8 + x2)) + (aI h (a + 10) ((x1 * 8 + x2) * 8 + x4)) → Ex X PG (d + 1) 50 87 [some (.ref a), some (.int (J x1)), some (.int (J x2)), some (.int (J x3)), some (.int (J (x4 + 1))), some (.int (J ((aI h (a + 10) ((x1 * 8 + x3) * 8 + x2)) + (aI h (a + 10) ((x1 * 8 + x2) * 8 + x4)))))] [] h Q) ∧ (¬ aI h (a + 10) ((x1 * 8 + x3) * 8 + x4) ≤ (aI h (a + 10) ((x1 * 8 + x3) * 8 + x2)) + (aI h (a + 10) ((x1 * 8 + x2) * 8 + x4)) → Ex X PG (d + 1) 50 87 [some (.ref a), some (.int (J x1)), some (.int (J x2)), some (.int (J x3)), some (.int (J (x4 + 1))), some (.int (J ((aI h (a + 10) ((x1 * 8 + x3) * 8 + x2)) + (aI h (a + 10) ((x1 * 8 + x2) * 8 + x4)))))] [] (wA h (a + 10) ((x1 * 8 + x3) * 8 + x4) ((aI h (a + 10) ((x1 * 8 + x3) * 8 + x2)) + (aI h (a + 10) ((x1 * 8 + x2) * 8 + x4)))) Q))))) :
    Ex X PG (d + 1) 50 87 [some (.ref a), some (.int (J x1)), some (.int (J x2)), some (.int (J x3)), some (.int (J x4)), l5] [] h Q := by
  refine wpx_ok (cut := [2, 10, 70, 78, 87]) 32 d 50 87 _ _ _ _ ?_
  show (((J 8) ≤ (J x4) → Ex X PG (d + 1) 50 78 [some (.ref a), some (.int (J x1)), some (.int (J x2)), some (.int ((J x3) + (J 1))), some (.int (J x4)), l5] [] h Q) ∧ (¬ ((J 8) ≤ (J x4)) → hs h a = (0, 2) ∧ Ex X PG d 54 0 [some (.ref a), some (.int (J x1)), some (.int (J x3)), some (.int (J x2))] [] h (fun v4 h5 => ∃ r6, v4 = some (.int r6) ∧ hs h5 a = (0, 2) ∧ Ex X PG d 54 0 [some (.ref a), some (.int (J x1)), some (.int (J x2)), some (.int (J x4))] [] h5 (fun v8 h9 => ∃ r10, v8 = some (.int r10) ∧ hs h9 a = (0, 2) ∧ Ex X PG d 54 0 [some (.ref a), some (.int (J x1)), some (.int (J x3)), some (.int (J x4))] [] h9 (fun v12 h13 => ∃ r14, v12 = some (.int r14) ∧ ((r14 ≤ (r6 + r10) → Ex X PG (d + 1) 50 87 [some (.ref a), some (.int (J x1)), some (.int (J x2)), some (.int (J x3)), some (.int ((J x4) + (J 1))), some (.int (r6 + r10))] [] h13 Q) ∧ (¬ (r14 ≤ (r6 + r10)) → hs h13 a = (0, 2) ∧ ∃ q19, hR h13 a 15 = some q19 ∧ Ex X PG d 53 0 [some (.int (J x1)), some (.int (J x3)), some (.int (J x4))] [] h13 (fun v20 h21 => ∃ r22, v20 = some (.int r22) ∧ (hs h21 q19).1 = 1 ∧ ix r22 (hs h21 q19).2 ∧ Ex X PG (d + 1) 50 87 [some (.ref a), some (.int (J x1)), some (.int (J x2)), some (.int (J x3)), some (.int ((J x4) + (J 1))), some (.int (r6 + r10))] [] (wI h21 q19 (Int32.toNatClampNeg r22) (r6 + r10)) Q))))))))
  try simp only [aI_wAL, fI_wAL, aL_wA, aL_wF, aI_wA_ne, aI_wF_ne, fI_wA_ne, fI_wF_ne, fI_wF_nk, aL_wAL_ne, J_sameA, J_sameF, aL_same, Nat.add_left_cancel_iff, Nat.add_eq_left, Nat.left_eq_add, not_false_eq_true, Nat.reduceEqDiff, Nat.reduceAdd, J_add, J_sub, J_mul, J_neg, J_and, J_or, J_xor, J_shl, J_shr, J_div, J_i2b, J_i2l, J_l2i, J_lcm, J_max, J_min, J_nab, J_nao, rdA, rdF, rdL, wA_fold, wF_fold, wL_fold, wC_fold]
  obtain ⟨k3, w⟩ := w
  refine ⟨fun c1 => ?_, fun c1 => ?_⟩
  · have t2 : 8 ≤ x4 := ((Jle (by decide) k3).mp c1)
    replace w := w.1 t2
    exact w
  · have t2 : ¬ 8 ≤ x4 := (fun e => c1 ((Jle (by decide) k3).mpr e))
    replace w := w.2 t2
    refine ⟨(plan_0 K_h_0), ?_⟩
    obtain ⟨k7, w⟩ := w
    refine m54 (h := h) (a := a) (r := x1) (x := x3) (y := x2) C_h K_h_0 (by omega) k7 ?_
    refine ⟨_, rfl, ?_⟩
    try simp only [aI_wAL, fI_wAL, aL_wA, aL_wF, aI_wA_ne, aI_wF_ne, fI_wA_ne, fI_wF_ne, fI_wF_nk, aL_wAL_ne, J_sameA, J_sameF, aL_same, Nat.add_left_cancel_iff, Nat.add_eq_left, Nat.left_eq_add, not_false_eq_true, Nat.reduceEqDiff, Nat.reduceAdd, J_add, J_sub, J_mul, J_neg, J_and, J_or, J_xor, J_shl, J_shr, J_div, J_i2b, J_i2l, J_l2i, J_lcm, J_max, J_min, J_nab, J_nao, rdA, rdF, rdL, wA_fold, wF_fold, wL_fold, wC_fold]
    refine ⟨(plan_0 K_h_0), ?_⟩
    obtain ⟨k11, w⟩ := w
    refine m54 (h := h) (a := a) (r := x1) (x := x2) (y := x4) C_h K_h_0 (by omega) k11 ?_
    refine ⟨_, rfl, ?_⟩
    try simp only [aI_wAL, fI_wAL, aL_wA, aL_wF, aI_wA_ne, aI_wF_ne, fI_wA_ne, fI_wF_ne, fI_wF_nk, aL_wAL_ne, J_sameA, J_sameF, aL_same, Nat.add_left_cancel_iff, Nat.add_eq_left, Nat.left_eq_add, not_false_eq_true, Nat.reduceEqDiff, Nat.reduceAdd, J_add, J_sub, J_mul, J_neg, J_and, J_or, J_xor, J_shl, J_shr, J_div, J_i2b, J_i2l, J_l2i, J_lcm, J_max, J_min, J_nab, J_nao, rdA, rdF, rdL, wA_fold, wF_fold, wL_fold, wC_fold]
    refine ⟨(plan_0 K_h_0), ?_⟩
    obtain ⟨k15, w⟩ := w
    refine m54 (h := h) (a := a) (r := x1) (x := x3) (y := x4) C_h K_h_0 (by omega) k15 ?_
    refine ⟨_, rfl, ?_⟩
    try simp only [aI_wAL, fI_wAL, aL_wA, aL_wF, aI_wA_ne, aI_wF_ne, fI_wA_ne, fI_wF_ne, fI_wF_nk, aL_wAL_ne, J_sameA, J_sameF, aL_same, Nat.add_left_cancel_iff, Nat.add_eq_left, Nat.left_eq_add, not_false_eq_true, Nat.reduceEqDiff, Nat.reduceAdd, J_add, J_sub, J_mul, J_neg, J_and, J_or, J_xor, J_shl, J_shr, J_div, J_i2b, J_i2l, J_l2i, J_lcm, J_max, J_min, J_nab, J_nao, rdA, rdF, rdL, wA_fold, wF_fold, wL_fold, wC_fold]
    obtain ⟨k18, w⟩ := w
    refine ⟨fun c16 => ?_, fun c16 => ?_⟩
    · have t17 : aI h (a + 10) ((x1 * 8 + x3) * 8 + x4) ≤ (aI h (a + 10) ((x1 * 8 + x3) * 8 + x2)) + (aI h (a + 10) ((x1 * 8 + x2) * 8 + x4)) := ((Jle (rg_toInt _) k18).mp c16)
      replace w := w.1 t17
      exact w
    · have t17 : ¬ aI h (a + 10) ((x1 * 8 + x3) * 8 + x4) ≤ (aI h (a + 10) ((x1 * 8 + x3) * 8 + x2)) + (aI h (a + 10) ((x1 * 8 + x2) * 8 + x4)) := (fun e => c16 ((Jle (rg_toInt _) k18).mpr e))
      replace w := w.2 t17
      refine ⟨(plan_0 K_h_0), _, (plan_20 K_h_0), ?_⟩
      refine m53 (h := h) (r := x1) (x := x3) (y := x4) C_h (by omega)  ?_
      refine ⟨_, rfl, ?_⟩
      try simp only [aI_wAL, fI_wAL, aL_wA, aL_wF, aI_wA_ne, aI_wF_ne, fI_wA_ne, fI_wF_ne, fI_wF_nk, aL_wAL_ne, J_sameA, J_sameF, aL_same, Nat.add_left_cancel_iff, Nat.add_eq_left, Nat.left_eq_add, not_false_eq_true, Nat.reduceEqDiff, Nat.reduceAdd, J_add, J_sub, J_mul, J_neg, J_and, J_or, J_xor, J_shl, J_shr, J_div, J_i2b, J_i2l, J_l2i, J_lcm, J_max, J_min, J_nab, J_nao, rdA, rdF, rdL, wA_fold, wF_fold, wL_fold, wC_fold]
      refine ⟨congrArg Prod.fst (plan_10 K_h_0), ixs (plan_10 K_h_0) k15 (by decide), ?_⟩
      exact w
def d0P (B : Int → Int → Prop) (x y v : Int) : Prop := (x = y ∧ v = 0) ∨ (¬ x = y ∧ ((B x y ∧ v = 1) ∨ (¬ B x y ∧ v = 99)))
theorem m50 {X : Cst} {d a : Nat} {r : Int} {h : AH} {Q : Post} (C : Lay h) (K : PlanAt h a) (hd : 4 ≤ d) (hr : 0 ≤ r ∧ r < 2) (h7 : ∀ x y, 0 ≤ x → x < 8 → 0 ≤ y → y < 8 → -1 ≤ aI h (a + 7) (x * 8 + y) ∧ aI h (a + 7) (x * 8 + y) < 14) (h8 : 0 ≤ aI h (a + 8) r ∧ aI h (a + 8) r < 16384)
    (k : ∀ h', LfO h h' a r → (∀ x y, 0 ≤ x → x < 8 → 0 ≤ y → y < 8 → IsL (fun n => wk (bsR h a r) n x y) (Mt h' a r x y)) → Q none h') : Ex X PG d 50 0 [some (.ref a), some (.int (J r)), none, none, none, none] [] h Q := by
  obtain ⟨d, rfl⟩ : ∃ e, d = e + 1 := ⟨d - 1, by omega⟩
  have hB : ∀ x y : Int, bsR h a r x y → (0 ≤ x ∧ x < 8) ∧ 0 ≤ y ∧ y < 8 := fun x y z => z.1
  -- the round of one room, from row i, place j
  have rd : ∀ (v : Int) (D : Int → Int → Int) (hv : 0 ≤ v ∧ v < 8) (F : FW (bsR h a r) v D) (kk : ∀ h' l3 l4 l5, LfO h h' a r → (∀ x y, 0 ≤ x → x < 8 → 0 ≤ y → y < 8 → Mt h' a r x y = fwm D v x y) → Ex X PG (d + 1) 50 70 [some (.ref a), some (.int (J r)), some (.int (J (v + 1))), l3, l4, l5] [] h' Q),
      ∀ (z : Nat) (i : Int) (l4 l5 : Option Value) (h' : AH), 8 - i = z → 0 ≤ i → i ≤ 8 → LfO h h' a r → (∀ x y, 0 ≤ x → x < 8 → 0 ≤ y → y < 8 → (x < i → Mt h' a r x y = fwm D v x y) ∧ (¬ x < i → Mt h' a r x y = D x y)) →
      Ex X PG (d + 1) 50 78 [some (.ref a), some (.int (J r)), some (.int (J v)), some (.int (J i)), l4, l5] [] h' Q := by
    intro v D hv F kk z
    induction z with
    | zero =>
      intro i l4 l5 h' ez i0 i1 L M
      refine r50_78 (L.1.C C) (PlanAt_SH L.1.1 K) ⟨by omega, fun _ => ?_, fun c => absurd (by omega) c⟩
      exact kk h' _ _ _ L (fun x y x0 x1 y0 y1 => (M x y x0 x1 y0 y1).1 (by omega))
    | succ z ih =>
      intro i l4 l5 h' ez i0 i1 L M
      have Dz := F.z hv
      have inn : ∀ (u : Nat) (j : Int) (l5 : Option Value) (h' : AH), 8 - j = u → 0 ≤ j → j ≤ 8 → LfO h h' a r → (∀ x y, 0 ≤ x → x < 8 → 0 ≤ y → y < 8 → ((x < i ∨ x = i ∧ y < j) → Mt h' a r x y = fwm D v x y) ∧ (¬ (x < i ∨ x = i ∧ y < j) → Mt h' a r x y = D x y)) →
          Ex X PG (d + 1) 50 87 [some (.ref a), some (.int (J r)), some (.int (J v)), some (.int (J i)), some (.int (J j)), l5] [] h' Q := by
        intro u
        induction u with
        | zero =>
          intro j l5 h' eu j0 j1 L M
          refine r50_87 (L.1.C C) (PlanAt_SH L.1.1 K) (by omega) ⟨by omega, fun _ => ?_, fun c => absurd (by omega) c⟩
          exact ih (i + 1) _ _ h' (by omega) (by omega) (by omega) L (fun x y x0 x1 y0 y1 => ⟨fun c => (M x y x0 x1 y0 y1).1 (by omega), fun c => (M x y x0 x1 y0 y1).2 (by omega)⟩)
        | succ u ihu =>
          intro j l5 h' eu j0 j1 L M
          have ev : Mt h' a r i v = D i v := by
            have m := M i v (by omega) (by omega) hv.1 hv.2
            by_cases c : i < i ∨ i = i ∧ v < j
            · rw [m.1 c, fwm_c Dz]
            · exact m.2 c
          have ej : Mt h' a r v j = D v j := by
            have m := M v j hv.1 hv.2 (by omega) (by omega)
            by_cases c : v < i ∨ v = i ∧ j < j
            · rw [m.1 c, fwm_r Dz]
            · exact m.2 c
          have ij : Mt h' a r i j = D i j := (M i j (by omega) (by omega) (by omega) (by omega)).2 (by omega)
          have f1 := (F i v (by omega) (by omega) hv.1 hv.2).1
          have f2 := (F v j hv.1 hv.2 (by omega) (by omega)).1
          unfold Mt at ev ej ij
          refine r50_87 (L.1.C C) (PlanAt_SH L.1.1 K) (by omega) ?_
          rw [ev, ej, ij]
          refine ⟨by omega, fun c => absurd c (by omega), fun _ => ⟨by omega, by omega, by omega, by omega, fun c => ?_, fun c => ?_⟩⟩
          · refine ihu (j + 1) _ h' (by omega) (by omega) (by omega) L (fun x y x0 x1 y0 y1 => ⟨fun c2 => ?_, fun c2 => (M x y x0 x1 y0 y1).2 (by omega)⟩)
            by_cases q : x = i ∧ y = j
            · rw [q.1, q.2, fwm_ge (by omega)]; exact ij
            · exact (M x y x0 x1 y0 y1).1 (by omega)
          · refine ihu (j + 1) _ _ (by omega) (by omega) (by omega) (L.w (by omega) hr (by omega) (by omega)) (fun x y x0 x1 y0 y1 => ⟨fun c2 => ?_, fun c2 => ?_⟩)
            · by_cases q : x = i ∧ y = j
              · rw [q.1, q.2, fwm_lt (by omega), Mt_eq (by omega)]
              · rw [Mt_ne (by omega) hr (by omega) (by omega) hr (by omega) (by omega) (by omega)]
                exact (M x y x0 x1 y0 y1).1 (by omega)
            · rw [Mt_ne (by omega) hr (by omega) (by omega) hr (by omega) (by omega) (by omega)]
              exact (M x y x0 x1 y0 y1).2 (by omega)
      refine r50_78 (L.1.C C) (PlanAt_SH L.1.1 K) ⟨by omega, fun c => absurd c (by omega), fun _ => ?_⟩
      exact inn 8 0 _ h' (by omega) (by omega) (by omega) L (fun x y x0 x1 y0 y1 => ⟨fun c => (M x y x0 x1 y0 y1).1 (by omega), fun c => (M x y x0 x1 y0 y1).2 (by omega)⟩)
  have vi : ∀ (z : Nat) (v : Int) (l3 l4 l5 : Option Value) (h' : AH), 8 - v = z → 0 ≤ v → v ≤ 8 → LfO h h' a r → FW (bsR h a r) v (Mt h' a r) → Ex X PG (d + 1) 50 70 [some (.ref a), some (.int (J r)), some (.int (J v)), l3, l4, l5] [] h' Q := by
    intro z
    induction z with
    | zero =>
      intro v l3 l4 l5 h' ez v0 v1 L F
      have e : v = 8 := by omega
      subst e
      refine r50_70 (L.1.C C) (PlanAt_SH L.1.1 K) ⟨by omega, fun _ => ?_, fun c => absurd (by omega) c⟩
      exact k h' L (fun x y x0 x1 y0 y1 => F.ls hB ⟨x0, x1⟩ ⟨y0, y1⟩)
    | succ z ih =>
      intro v l3 l4 l5 h' ez v0 v1 L F
      refine r50_70 (L.1.C C) (PlanAt_SH L.1.1 K) ⟨by omega, fun c => absurd c (by omega), fun _ => ?_⟩
      refine rd v (Mt h' a r) (by omega) F (fun h2 m3 m4 m5 L2 M2 => ?_) 8 0 _ _ h' (by omega) (by omega) (by omega) L (fun x y x0 x1 y0 y1 => ⟨fun c => by omega, fun _ => rfl⟩)
      refine ih (v + 1) _ _ _ h2 (by omega) (by omega) (by omega) L2 (fun x y x0 x1 y0 y1 => ?_)
      rw [M2 x y x0 x1 y0 y1]
      exact F.st (by omega) x y x0 x1 y0 y1
  have st : ∀ (z : Nat) (i : Int) (l3 l4 l5 : Option Value) (h' : AH), 8 - i = z → 0 ≤ i → i ≤ 8 → LfO h h' a r → (∀ x y, 0 ≤ x → x < i → 0 ≤ y → y < 8 → d0P (bsR h a r) x y (Mt h' a r x y)) → Ex X PG (d + 1) 50 2 [some (.ref a), some (.int (J r)), some (.int (J i)), l3, l4, l5] [] h' Q := by
    intro z
    induction z with
    | zero =>
      intro i l3 l4 l5 h' ez i0 i1 L M
      refine r50_2 (L.1.C C) (PlanAt_SH L.1.1 K) ⟨by omega, fun _ => ?_, fun c => absurd (by omega) c⟩
      exact vi 8 0 _ _ _ h' (by omega) (by omega) (by omega) L (FW.b hB (fun x y x0 x1 y0 y1 => M x y x0 (by omega) y0 y1))
    | succ z ih =>
      intro i l3 l4 l5 h' ez i0 i1 L M
      have inn : ∀ (u : Nat) (j : Int) (l4 l5 : Option Value) (h' : AH), 8 - j = u → 0 ≤ j → j ≤ 8 → LfO h h' a r → (∀ x y, 0 ≤ x → x < 8 → 0 ≤ y → y < 8 → (x < i ∨ x = i ∧ y < j) → d0P (bsR h a r) x y (Mt h' a r x y)) →
          Ex X PG (d + 1) 50 10 [some (.ref a), some (.int (J r)), some (.int (J i)), some (.int (J j)), l4, l5] [] h' Q := by
        intro u
        induction u with
        | zero =>
          intro j l4 l5 h' eu j0 j1 L M
          refine r50_10 (L.1.C C) (PlanAt_SH L.1.1 K) (by omega) ⟨by omega, fun _ => ?_, fun c => absurd (by omega) c⟩
          exact ih (i + 1) _ _ _ h' (by omega) (by omega) (by omega) L (fun x y x0 x1 y0 y1 => M x y x0 (by omega) y0 y1 (by omega))
        | succ u ihu =>
          intro j l4 l5 h' eu j0 j1 L M
          have wr : ∀ (v : Int) (l4 : Option Value), -2147483648 ≤ v ∧ v < 2147483648 → d0P (bsR h a r) i j v → Ex X PG (d + 1) 50 10 [some (.ref a), some (.int (J r)), some (.int (J i)), some (.int (J (j + 1))), l4, l5] [] (wA h' (a + 10) ((r * 8 + i) * 8 + j) v) Q := by
            intro v l4 hv dv
            refine ihu (j + 1) _ _ _ (by omega) (by omega) (by omega) (L.w hv hr (by omega) (by omega)) (fun x y x0 x1 y0 y1 o => ?_)
            by_cases q : x = i ∧ y = j
            · rw [q.1, q.2, Mt_eq hv]; exact dv
            · rw [Mt_ne hv hr (by omega) (by omega) hr (by omega) (by omega) (by omega)]
              exact M x y x0 x1 y0 y1 (by omega)
          have a7 := L.1.a (a + 7) (fun _ z => by omega)
          have a8 := L.1.a (a + 8) (fun _ z => by omega)
          have bs : bsR h' a r i j ↔ bsR h a r i j := by unfold bsR; rw [a7, a8]
          refine r50_10 (L.1.C C) (PlanAt_SH L.1.1 K) (by omega) ⟨by omega, fun c => absurd c (by omega), fun _ => ?_⟩
          refine m51b (L.1.C C) (PlanAt_SH L.1.1 K) (by omega) hr (by omega) (by omega) (by rw [a7]; exact h7 i j (by omega) (by omega) (by omega) (by omega)) (by rw [a8]; exact h8) (fun b => ?_) (fun b => ?_)
          · refine ⟨1, by omega, rfl, SH.rf, fun z => absurd z (by decide), fun _ => ⟨by omega, fun c => ⟨by omega, wr 1 _ (by omega) (Or.inr ⟨c, Or.inl ⟨bs.mp b, rfl⟩⟩)⟩, fun c => ⟨by omega, wr 0 _ (by omega) (Or.inl ⟨c, rfl⟩)⟩⟩⟩
          · refine ⟨0, by omega, rfl, SH.rf, fun _ => ⟨by omega, fun c => ⟨by omega, wr 99 _ (by omega) (Or.inr ⟨c, Or.inr ⟨fun z => b (bs.mpr z), rfl⟩⟩)⟩, fun c => ⟨by omega, wr 0 _ (by omega) (Or.inl ⟨c, rfl⟩)⟩⟩, fun z => absurd rfl z⟩
      refine r50_2 (L.1.C C) (PlanAt_SH L.1.1 K) ⟨by omega, fun c => absurd c (by omega), fun _ => ?_⟩
      exact inn 8 0 _ _ h' (by omega) (by omega) (by omega) L (fun x y x0 x1 y0 y1 o => M x y x0 (by omega) y0 y1)
  exact r50_0 C K (st 8 0 _ _ _ h (by omega) (by omega) (by omega) ⟨Fr.rf, fun _ _ _ _ _ _ _ _ _ _ => rfl⟩ (fun x y x0 x1 => by omega))
