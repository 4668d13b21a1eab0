/-! THE CLASS: what coming costs, told in the order of costs. -/
/-- k passings from f0, for c, to g -/
def FC (S : Int → Int) (t : Prop) (m : Nat) (b : Int) (f0 : Int → Int) : Nat → Int → (Int → Int) → Prop
  | 0, c, g => c = 0 ∧ g = f0
  | k + 1, c, g => ∃ f p d q, FC S t m b f0 k (c - wt S b p) f ∧ Lbl S t m (-1) f p d q g
theorem PK_FC {S : Int → Int} {t : Prop} {m : Nat} {b : Int} {f0 : Int → Int} {G : (Int → Int) → Prop} : ∀ (n k : Nat) (c e : Int) (f : Int → Int), PK S t m b G n c f → FC S t m b f0 k e f → ∃ g k', FC S t m b f0 k' (e + c) g ∧ G g := by
  intro n
  induction n with
  | zero => intro k c e f p l; exact ⟨f, k, by rw [p.1, Int.add_zero]; exact l, p.2⟩
  | succ n ih =>
    intro k c e f x l
    obtain ⟨p, d, q, g, hl, x⟩ := x
    obtain ⟨g', k', l', gg⟩ := ih (k + 1) (c - wt S b p) (e + wt S b p) g x ⟨f, p, d, q, by rw [Int.add_sub_cancel]; exact l, hl⟩
    exact ⟨g', k', by rw [show e + c = e + wt S b p + (c - wt S b p) by omega]; exact l', gg⟩
theorem FC_PK {S : Int → Int} {t : Prop} {m : Nat} {b : Int} {f0 : Int → Int} {G : (Int → Int) → Prop} : ∀ (k n : Nat) (c e : Int) (g : Int → Int), FC S t m b f0 k e g → PK S t m b G n c g → ∃ n', PK S t m b G n' (e + c) f0 := by
  intro k
  induction k with
  | zero => intro n c e g l p; exact ⟨n, by rw [l.1, Int.zero_add, ← l.2]; exact p⟩
  | succ k ih =>
    intro n c e g l x
    obtain ⟨f, p, d, q, l, hl⟩ := l
    obtain ⟨n', p'⟩ := ih (n + 1) (wt S b p + c) (e - wt S b p) f l ⟨p, d, q, g, hl, by rw [show wt S b p + c - wt S b p = c by omega]; exact x⟩
    exact ⟨n', by rw [show e + c = e - wt S b p + (wt S b p + c) by omega]; exact p'⟩
theorem FC_K {N : Int} {S : Int → Int} (W : WF N S) {t : Prop} {m : Nat} {b : Int} {f0 : Int → Int} (k0 : Kf m (S 0) f0) : ∀ (k : Nat) (c : Int) (g : Int → Int), FC S t m b f0 k c g → Kf m (S 0) g := by
  intro k
  induction k with
  | zero => intro c g l; rw [l.2]; exact k0
  | succ k ih => intro c g ⟨f, p, d, q, l, hl⟩; exact Lbl_K W hl (ih _ f l)
/-- W waits, Z is settled, cur is the cost looked at -/
def DJ (S : Int → Int) (m : Nat) (b : Int) (f0 : Int → Int) (G : (Int → Int) → Prop) (h : AH) (co ne be : Nat) (cur : Int) (W Z : Int → Prop) (ts : Int → Int) (clk : Int) : Prop :=
  DLh h co ne be (8 ^ m) W ts clk ∧ (∀ x, Z x → (0 ≤ x ∧ x < 8 ^ m) ∧ ¬ W x) ∧ (∀ x, 0 ≤ x → x < 8 ^ m → (¬ aI h co x = 2147483647 ↔ W x ∨ Z x)) ∧
  (∀ x, W x → cur ≤ aI h co x ∧ aI h co x ≤ cur + 50) ∧ (∀ x, Z x → aI h co x ≤ cur) ∧
  (∀ x, W x ∨ Z x → ∃ f, Kf m (S 0) f ∧ x = enc 8 m f ∧ (∃ k, FC S (nightP S) m b f0 k (aI h co x) f) ∧ 0 ≤ aI h co x ∧ aI h co x ≤ 50 * cnt Z (8 ^ m)) ∧
  (W (enc 8 m f0) ∨ Z (enc 8 m f0)) ∧ aI h co (enc 8 m f0) = 0 ∧ (∀ f, Kf m (S 0) f → Z (enc 8 m f) → ¬ G f)
/-- all passings from those of V are told -/
def RX (S : Int → Int) (m : Nat) (b : Int) (h : AH) (co : Nat) (V : Int → Prop) : Prop := ∀ f, Kf m (S 0) f → V (enc 8 m f) → ∀ p d q g, Lbl S (nightP S) m (-1) f p d q g → ¬ aI h co (enc 8 m g) = 2147483647 ∧ aI h co (enc 8 m g) ≤ aI h co (enc 8 m f) + wt S b p
/-- no row to G costs less than cur -/
theorem DJ_low {N : Int} {S : Int → Int} (W' : WF N S) {m : Nat} (hm : m ≤ 5) (h2 : (m : Int) ≤ S 2) {b : Int} {f0 : Int → Int} (k0 : Kf m (S 0) f0) {G : (Int → Int) → Prop} {h : AH} {co : Nat} {cur : Int} {W Z : Int → Prop} (nw : ∀ x, W x → cur ≤ aI h co x) (seen : ∀ x, 0 ≤ x → x < 8 ^ m → (¬ aI h co x = 2147483647 ↔ W x ∨ Z x)) (c0 : aI h co (enc 8 m f0) = 0) (R : RX S m b h co Z) (c1 : 0 ≤ cur) : ∀ (k : Nat) (c : Int) (g : Int → Int), FC S (nightP S) m b f0 k c g → (Z (enc 8 m g) ∧ aI h co (enc 8 m g) ≤ c) ∨ (cur ≤ c ∧ ∃ x, W x) := by
  have b0 := W'.1
  unfold WFb at b0
  intro k
  induction k with
  | zero =>
    intro c g l
    have e := enc_b (b := 8) (by decide) m f0 (k0.up b0.2.1).1
    rw [l.2, l.1]
    rcases (seen _ e.1 e.2).mp (by omega) with z | z
    · right; have := nw _ z; exact ⟨by omega, _, z⟩
    · left; exact ⟨z, by omega⟩
  | succ k ih =>
    intro c g ⟨f, p, d, q, l, hl⟩
    have kf := FC_K W' k0 k _ f l
    have kg := Lbl_K W' hl kf
    have eg := enc_b (b := 8) (by decide) m g (kg.up b0.2.1).1
    have wb := wt_b W' b (p := p) (by have := Lbl_rg hl; omega)
    rcases ih _ f l with ⟨z, zc⟩ | ⟨z, zx⟩
    · have r := R f kf z p d q g hl
      rcases (seen _ eg.1 eg.2).mp r.1 with y | y
      · right; have := nw _ y; exact ⟨by omega, _, y⟩
      · left; exact ⟨y, by omega⟩
    · right; exact ⟨by omega, zx⟩
theorem cnt_full {P : Int → Prop} {N : Int} (hN : 0 ≤ N) (e : N ≤ cnt P N) : ∀ x, 0 ≤ x → x < N → P x := by
  intro x x0 x1
  apply Classical.byContradiction
  intro z
  have a := cnt_add (P := P) (R := fun y => P y ∨ y = x) (p := x) (n := N) ⟨x0, x1⟩ (fun q _ _ n => ⟨fun z => Or.inl z, fun z => z.elim (fun y => y) (fun y => absurd y n)⟩) z (Or.inr rfl)
  have b := cnt_b (fun y => P y ∨ y = x) (i := N) hN
  omega
/-- while f is gone from -/
def JP (h0 : AH) (S : Int → Int) (m : Nat) (b : Int) (f0 : Int → Int) (G : (Int → Int) → Prop) (co ne be : Nat) (cur : Int) (Z : Int → Prop) (f : Int → Int) (h : AH) : Prop :=
  ∃ W ts clk, Fr (TAw co ne be) h0 h ∧ DJ S m b f0 G h co ne be cur W Z ts clk ∧ RX S m b h co (fun x => Z x ∧ ¬ x = enc 8 m f) ∧ aI h co (enc 8 m f) = cur
-- OutwardDoors$Pricer.reach(III)V at 0
set_option maxRecDepth 20000 in
set_option maxHeartbeats 4000000 in
theorem r126_0 {X : Cst} {d : Nat} {x1 : Int} {x2 : Int} {x3 : Int} {pl : Nat} {h : AH} {Q : Post} (C_h : Lay h) (K_h_0 : PlanAt h pl) {co ne be ln : Nat} (B_h : PriAt h pl co ne be ln) (ap : (co = 251 ∨ 281 ≤ co) ∧ (ne = 252 ∨ 281 ≤ ne) ∧ (be = 253 ∨ 281 ≤ be) ∧ (¬ co = ne ∧ ¬ co = be ∧ ¬ ne = be) ∧ (co < pl ∨ pl + 10 < co) ∧ (ne < pl ∨ pl + 10 < ne) ∧ (be < pl ∨ pl + 10 < be))
  (w : Ex X PG d 127 0 [some (.int (J x3))] [] h (fun v1 h2 => ∃ r3 : Int, (-2147483648 ≤ r3 ∧ r3 < 2147483648) ∧ v1 = some (.int (J r3)) ∧ SH h h2 ∧ (0 ≤ x2 ∧ x2 < ln) ∧ ((¬ r3 = fI h2 250 8 → (0 ≤ r3 ∧ r3 < 4) ∧ Ex X PG d 128 0 [some (.ref 250), some (.int (J x1)), some (.int (J ((aI h2 co x2) + (aI h2 (pl + 6) r3)))), none] [] h2 (fun v11 h12 => v11 = none ∧ SH h2 h12 ∧ Q none h12)) ∧ (r3 = fI h2 250 8 → Ex X PG d 128 0 [some (.ref 250), some (.int (J x1)), some (.int (J ((aI h2 co x2) + 0))), none] [] h2 (fun v14 h15 => v14 = none ∧ SH h2 h15 ∧ Q none h15))))) :
    Ex X PG (d + 1) 126 0 [some (.ref 250), some (.int (J x1)), some (.int (J x2)), some (.int (J x3)), none] [] h Q := by
  refine wpx_ok (cut := []) 21 d 126 0 _ _ _ _ ?_
  show Ex X PG d 127 0 [some (.int (J x3))] [] h (fun v1 h2 => ∃ r3, v1 = some (.int r3) ∧ hs h2 250 = (0, 3) ∧ ∃ q4, hR h2 250 4 = some q4 ∧ (hs h2 q4).1 = 1 ∧ ix (J x2) (hs h2 q4).2 ∧ hs h2 250 = (0, 3) ∧ ((¬ r3 = (hF h2 250 8) → hs h2 250 = (0, 3) ∧ ∃ q8, hR h2 250 0 = some q8 ∧ hs h2 q8 = (0, 2) ∧ ∃ q9, hR h2 q8 11 = some q9 ∧ (hs h2 q9).1 = 1 ∧ ix r3 (hs h2 q9).2 ∧ hs h2 250 = (0, 3) ∧ Ex X PG d 128 0 [some (.ref 250), some (.int (J x1)), some (.int ((hI h2 q4 (Int32.toNatClampNeg (J x2))) + (hI h2 q9 (Int32.toNatClampNeg r3)))), none] [] h2 (fun v11 h12 => v11 = none ∧ Q none h12)) ∧ (¬ (¬ r3 = (hF h2 250 8)) → hs h2 250 = (0, 3) ∧ Ex X PG d 128 0 [some (.ref 250), some (.int (J x1)), some (.int ((hI h2 q4 (Int32.toNatClampNeg (J x2))) + (J 0))), none] [] h2 (fun v14 h15 => v14 = none ∧ Q none h15))))
  try simp only [aI_wAL, fI_wAL, aL_wA, aL_wF, aI_wA_ne, aI_wF_ne, fI_wA_ne, fI_wF_ne, fI_wF_nk, aL_wAL_ne, J_sameA, J_sameF, aL_same, Nat.add_left_cancel_iff, Nat.add_eq_left, Nat.left_eq_add, not_false_eq_true, Nat.reduceEqDiff, Nat.reduceAdd, J_add, J_sub, J_mul, J_neg, J_and, J_or, J_xor, J_shl, J_shr, J_div, J_i2b, J_i2l, J_l2i, J_lcm, J_max, J_min, J_nab, J_nao, rdA, rdF, rdL, wA_fold, wF_fold, wL_fold, wC_fold]
  refine Ex.mono w (Nat.le_refl _) ?_
  rintro v1 h2 ⟨r3, gr3, rfl, s17, w⟩
  refine ⟨_, rfl, ?_⟩
  have C_h2 := Lay_SH s17 C_h
  have K_h2_0 := PlanAt_SH s17 K_h_0
  have B_h2 := PriAt_SH s17 B_h
  try simp only [aI_wAL, fI_wAL, aL_wA, aL_wF, aI_wA_ne, aI_wF_ne, fI_wA_ne, fI_wF_ne, fI_wF_nk, aL_wAL_ne, J_sameA, J_sameF, aL_same, Nat.add_left_cancel_iff, Nat.add_eq_left, Nat.left_eq_add, not_false_eq_true, Nat.reduceEqDiff, Nat.reduceAdd, J_add, J_sub, J_mul, J_neg, J_and, J_or, J_xor, J_shl, J_shr, J_div, J_i2b, J_i2l, J_l2i, J_lcm, J_max, J_min, J_nab, J_nao, rdA, rdF, rdL, wA_fold, wF_fold, wL_fold, wC_fold]
  refine ⟨(ls250 C_h2), _, B_h2.2.1, ?_⟩
  try simp only [aI_wAL, fI_wAL, aL_wA, aL_wF, aI_wA_ne, aI_wF_ne, fI_wA_ne, fI_wF_ne, fI_wF_nk, aL_wAL_ne, J_sameA, J_sameF, aL_same, Nat.add_left_cancel_iff, Nat.add_eq_left, Nat.left_eq_add, not_false_eq_true, Nat.reduceEqDiff, Nat.reduceAdd, J_add, J_sub, J_mul, J_neg, J_and, J_or, J_xor, J_shl, J_shr, J_div, J_i2b, J_i2l, J_l2i, J_lcm, J_max, J_min, J_nab, J_nao, rdA, rdF, rdL, wA_fold, wF_fold, wL_fold, wC_fold]
  obtain ⟨k5, w⟩ := w
  refine ⟨congrArg Prod.fst B_h2.2.2.2.2.1, ixs B_h2.2.2.2.2.1 k5 (Nat.le_trans B_h.2.2.2.2.2.2.2 (by decide)), ?_⟩
  refine ⟨(ls250 C_h2), ?_⟩
  refine ⟨fun c6 => ?_, fun c6 => ?_⟩
  · have t7 : ¬ r3 = fI h2 250 8 := (fun e => c6 ((Jeq gr3 (rg_toInt _)).mpr e))
    replace w := w.1 t7
    refine ⟨(ls250 C_h2), _, B_h2.1, ?_⟩
    refine ⟨(plan_0 K_h2_0), _, (plan_16 K_h2_0), ?_⟩
    obtain ⟨k10, w⟩ := w
    refine ⟨congrArg Prod.fst (plan_6 K_h2_0), ixs (plan_6 K_h2_0) k10 (by decide), ?_⟩
    refine ⟨(ls250 C_h2), ?_⟩
    refine Ex.mono w (Nat.le_refl _) ?_
    rintro v11 h12 ⟨rfl, s13, w⟩
    refine ⟨rfl, ?_⟩
    have C_h12 := Lay_SH s13 C_h2
    have K_h12_0 := PlanAt_SH s13 K_h2_0
    have B_h12 := PriAt_SH s13 B_h2
    try simp only [aI_wAL, fI_wAL, aL_wA, aL_wF, aI_wA_ne, aI_wF_ne, fI_wA_ne, fI_wF_ne, fI_wF_nk, aL_wAL_ne, J_sameA, J_sameF, aL_same, Nat.add_left_cancel_iff, Nat.add_eq_left, Nat.left_eq_add, not_false_eq_true, Nat.reduceEqDiff, Nat.reduceAdd, J_add, J_sub, J_mul, J_neg, J_and, J_or, J_xor, J_shl, J_shr, J_div, J_i2b, J_i2l, J_l2i, J_lcm, J_max, J_min, J_nab, J_nao, rdA, rdF, rdL, wA_fold, wF_fold, wL_fold, wC_fold]
    exact w
  · have t7 : r3 = fI h2 250 8 := ((Jeq gr3 (rg_toInt _)).mp (Classical.byContradiction c6))
    replace w := w.2 t7
    refine ⟨(ls250 C_h2), ?_⟩
    refine Ex.mono w (Nat.le_refl _) ?_
    rintro v14 h15 ⟨rfl, s16, w⟩
    refine ⟨rfl, ?_⟩
    have C_h15 := Lay_SH s16 C_h2
    have K_h15_0 := PlanAt_SH s16 K_h2_0
    have B_h15 := PriAt_SH s16 B_h2
    try simp only [aI_wAL, fI_wAL, aL_wA, aL_wF, aI_wA_ne, aI_wF_ne, fI_wA_ne, fI_wF_ne, fI_wF_nk, aL_wAL_ne, J_sameA, J_sameF, aL_same, Nat.add_left_cancel_iff, Nat.add_eq_left, Nat.left_eq_add, not_false_eq_true, Nat.reduceEqDiff, Nat.reduceAdd, J_add, J_sub, J_mul, J_neg, J_and, J_or, J_xor, J_shl, J_shr, J_div, J_i2b, J_i2l, J_l2i, J_lcm, J_max, J_min, J_nab, J_nao, rdA, rdF, rdL, wA_fold, wF_fold, wL_fold, wC_fold]
    exact w
theorem m126 {X : Cst} {d pl co ne be ln m : Nat} {S : Int → Int} {N b cur p e q : Int} {f0 f g : Int → Int} {G : (Int → Int) → Prop} {Z : Int → Prop} {h0 h : AH} {Q : Post}
    (C0 : Lay h0) (K0 : PlanAt h0 pl) (B0 : PriAt h0 pl co ne be ln) (ap : apP pl co ne be) (hd : 3 ≤ d) (hm : m ≤ 5) (h2 : (m : Int) = S 2) (W : WF N S) (hl : (8 : Int) ^ m ≤ ln) (hc : 0 ≤ cur ∧ cur < 2000000) (R0 : PlanRep h0 pl S) (pp : fI h0 250 8 = b) (kf : Kf m (S 0) f) (zf : Z (enc 8 m f)) (z50 : cur + 50 ≤ 50 * cnt Z (8 ^ m)) (apl : pl = 4 ∨ pl = 53 ∨ 281 ≤ pl)
    (lb : Lbl S (nightP S) m (-1) f p e q g) (j : JP h0 S m b f0 G co ne be cur Z f h)
    (kk : ∀ h', SH h h' → JP h0 S m b f0 G co ne be cur Z f h' → aI h' co (enc 8 m g) ≤ cur + wt S b p → (∀ x, 0 ≤ x → x < 8 ^ m → aI h' co x ≤ aI h co x) → Q none h') : Ex X PG d 126 0 [some (.ref 250), some (.int (J (enc 8 m g))), some (.int (J (enc 8 m f))), some (.int (J (lbo p e q))), none] [] h Q := by
  obtain ⟨d, rfl⟩ : ∃ e, d = e + 1 := ⟨d - 1, by omega⟩
  have b0 := W.1
  unfold WFb at b0
  obtain ⟨V, ts, clk, F, D, RR, cf⟩ := j
  have kg := Lbl_K W lb kf
  have kf8 := kf.up b0.2.1
  have kg8 := kg.up b0.2.1
  have pw := pw_32k (b := 8) (by decide) (by decide) hm
  have ef := enc_b (b := 8) (by decide) m f kf8.1
  have eg := enc_b (b := 8) (by decide) m g kg8.1
  have rg := Lbl_rg lb
  have lo := lbo_o (p := p) (d := e) (q := q) (by omega) (by omega) (by omega)
  have wb := wt_b W b (p := p) (by omega)
  have app := ap
  obtain ⟨p1, p2, p3, ⟨p4, p5, p6⟩, p7, p8, p9⟩ := app
  have pay : aI h (pl + 6) p = pS S p 2 := by
    rw [F.a (pl + 6) (fun k z => by unfold TAw TLv at z; omega)]
    exact (R0.2.2.2.2.1 p (by omega) (by omega)).2.2
  have pb : fI h 250 8 = b := by rw [F.f 250 8 (fun z => by unfold TAw TLv at z; omega)]; exact pp
  have C := Lay_SH F.1 C0
  have K := PlanAt_SH F.1 K0
  have B := PriAt_SH F.1 B0
  obtain ⟨D1, D2, D3, D4, D5, D6, D7, D8, D9⟩ := D
  have go : ∀ c, c = cur + wt S b p → Ex X PG d 128 0 [some (.ref 250), some (.int (J (enc 8 m g))), some (.int (J c)), none] [] h (fun v11 h12 => v11 = none ∧ SH h h12 ∧ Q none h12) := by
    intro c ec
    have sw : c < aI h co (enc 8 m g) → (aI h co (enc 8 m g) = 2147483647 ↔ ¬ V (enc 8 m g)) := by
      intro cl
      constructor
      · intro z v
        have := D4 _ v
        omega
      · intro nv
        apply Classical.byContradiction
        intro z
        rcases (D3 _ eg.1 eg.2).mp z with y | y
        · exact nv y
        · have := D5 _ y; omega
    refine m128 (N := 8 ^ m) C K B ap (by omega) (by omega) D1 eg (by omega) sw (fun cl => ⟨rfl, SH.rf, ?_⟩) (fun cl h' ts' clk' F' e' D' => ⟨rfl, F'.1, ?_⟩)
    · exact kk h SH.rf ⟨V, ts, clk, F, ⟨D1, D2, D3, D4, D5, D6, D7, D8, D9⟩, RR, cf⟩ (by omega) (fun x _ _ => Int.le_refl _)
    · have ngz : ¬ Z (enc 8 m g) := fun z => by have := D5 _ z; omega
      have oth : ∀ x, 0 ≤ x → x < 8 ^ m → ¬ x = enc 8 m g → aI h' co x = aI h co x := fun x x0 x1 n => by rw [e', uu_ne (by omega) (by omega) n]
      have own : aI h' co (enc 8 m g) = c := by rw [e', uu_eq]
      have dn : ∀ x, 0 ≤ x → x < 8 ^ m → aI h' co x ≤ aI h co x := by
        intro x x0 x1
        by_cases z : x = enc 8 m g
        · rw [z, own]; omega
        · rw [oth x x0 x1 z]; exact Int.le_refl _
      have zs : ∀ x, Z x → aI h' co x = aI h co x := fun x zx => oth x (D2 x zx).1.1 (D2 x zx).1.2 (fun y => ngz (by rw [← y]; exact zx))
      have ngf : ¬ enc 8 m f0 = enc 8 m g := fun y => by rw [← y, D8] at cl; omega
      have e0 : 0 ≤ enc 8 m f0 ∧ enc 8 m f0 < 8 ^ m := by
        rcases D7 with y | y
        · exact (D1.1.1 _ y).1
        · exact (D2 _ y).1
      refine kk h' F'.1 ⟨fun y => V y ∨ y = enc 8 m g, ts', clk', F.tr F', ⟨D', fun x zx => ⟨(D2 x zx).1, fun y => y.elim (D2 x zx).2 (fun y => ngz (by rw [← y]; exact zx))⟩, fun x x0 x1 => ?_, fun x vx => ?_, fun x zx => by rw [zs x zx]; exact D5 x zx, fun x hx => ?_, ?_, by rw [oth _ e0.1 e0.2 ngf]; exact D8, D9⟩, fun f' kf' zf' p' d' q' g' l' => ?_, by rw [zs _ zf]; exact cf⟩ (by rw [own]; omega) dn
      · by_cases y : x = enc 8 m g
        · rw [y, own]
          exact ⟨fun _ => Or.inl (Or.inr rfl), fun _ => by omega⟩
        · rw [oth x x0 x1 y, D3 x x0 x1]
          exact ⟨fun q => q.elim (fun q => Or.inl (Or.inl q)) Or.inr, fun q => q.elim (fun q => q.elim Or.inl (fun z => absurd z y)) Or.inr⟩
      · by_cases y : x = enc 8 m g
        · rw [y, own]; omega
        · rcases vx with vx | vx
          · rw [oth x (D1.1.1 x vx).1.1 (D1.1.1 x vx).1.2 y]; exact D4 x vx
          · exact absurd vx y
      · by_cases y : x = enc 8 m g
        · obtain ⟨_, _, ef', ⟨kn, fc⟩, _⟩ := D6 _ (Or.inr zf)
          refine ⟨g, kg, y, ?_, ?_⟩
          · rw [y, own]
            obtain ⟨f1, kf1, e1, ⟨kn, fc⟩, _⟩ := D6 _ (Or.inr zf)
            have ff : f1 = f := enc_inj (b := 8) (by decide) (kf1.up b0.2.1) kf8 e1.symm
            rw [ff, cf] at fc
            exact ⟨kn + 1, f, p, e, q, by rw [ec, Int.add_sub_cancel]; exact fc, lb⟩
          · rw [y, own]; omega
        · have hx' : V x ∨ Z x := hx.elim (fun q => q.elim Or.inl (fun z => absurd z y)) Or.inr
          have rx : 0 ≤ x ∧ x < 8 ^ m := hx'.elim (fun q => (D1.1.1 x q).1) (fun q => (D2 x q).1)
          rw [oth x rx.1 rx.2 y]
          exact D6 x hx'
      · rcases D7 with y | y
        · exact Or.inl (Or.inl y)
        · exact Or.inr y
      · have r := RR f' kf' zf' p' d' q' g' l'
        have kg' := Lbl_K W l' kf'
        have eg' := enc_b (b := 8) (by decide) m g' (kg'.up b0.2.1).1
        have := dn _ eg'.1 eg'.2
        rw [zs _ zf'.1]
        refine ⟨?_, by omega⟩
        by_cases y : enc 8 m g' = enc 8 m g
        · rw [y, own]; omega
        · rw [oth _ eg'.1 eg'.2 y]; exact r.1
  refine r126_0 C K B ap ?_
  obtain ⟨d, rfl⟩ : ∃ e, d = e + 1 := ⟨d - 1, by omega⟩
  refine r127_0 C ?_
  rw [lo.1]
  refine ⟨p, by omega, rfl, SH.rf, by omega, ?_⟩
  rw [pb, cf, pay]
  refine ⟨fun c1 => ⟨by omega, ?_⟩, fun c1 => ?_⟩
  · exact go _ (by unfold wt; rw [if_neg c1])
  · exact go _ (by unfold wt; rw [if_pos c1])
