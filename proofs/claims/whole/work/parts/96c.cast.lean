/-! A CASTLE's text, purely; the reference's reader of it. -/
abbrev RS : Type := Int × Int × (Int → Int)
def fltR (f : Int) : RS := (f, 0, fun _ => 0)
noncomputable def nmc (tp : Int → Int) (L j lo hi : Int) (bar : Int → Prop) (K : Int → Int → RS) : RS := pI (nmF tp L j lo hi bar = 0) (K (tkV tp L j) (nx tp L j)) (fltR (nmF tp L j lo hi bar))
theorem nmc_pos {tp : Int → Int} {L j lo hi : Int} {bar : Int → Prop} {K : Int → Int → RS} (e : nmF tp L j lo hi bar = 0) : nmc tp L j lo hi bar K = K (tkV tp L j) (nx tp L j) := pI_pos e
theorem nmc_neg {tp : Int → Int} {L j lo hi : Int} {bar : Int → Prop} {K : Int → Int → RS} (e : ¬ nmF tp L j lo hi bar = 0) : nmc tp L j lo hi bar K = fltR (nmF tp L j lo hi bar) := pI_neg e
/-- rooms that a door from a may not lead to -/
def dbar (R : Int → Int) (a v : Int) : Prop := v = a ∨ ∃ k, (0 ≤ k ∧ k < R 1) ∧ ((R (42 + 3 * k) = a ∧ R (42 + 3 * k + 1) = v) ∨ (R (42 + 3 * k) = v ∧ R (42 + 3 * k + 1) = a))
noncomputable def cCas (tp : Int → Int) (L j : Int) (R : Int → Int) : RS := nmc tp L j 2 8 noB fun v j1 => (0, j1, uu_ R 0 v)
noncomputable def cFar (tp : Int → Int) (L j : Int) (R : Int → Int) : RS := nmc tp L j 0 (R 0 - 1) noB fun r j1 => nmc tp L j1 0 9 noB fun f j2 => (0, j2, uu_ R (34 + r) f)
def dorR (R : Int → Int) (w a b : Int) : Int → Int := uu_ (uu_ (uu_ (uu_ R (42 + 3 * R 1) a) (42 + 3 * R 1 + 1) b) (42 + 3 * R 1 + 2) w) 1 (R 1 + 1)
noncomputable def cDor (tp : Int → Int) (L j w : Int) (R : Int → Int) : RS := nmc tp L j 0 (R 0 - 1) noB fun a j1 => nmc tp L j1 0 (R 0 - 1) (dbar R a) fun b j2 => (0, j2, dorR R w a b)
noncomputable def cNig (tp : Int → Int) (L j : Int) (R : Int → Int) : RS := nmc tp L j 0 23 noB fun a j1 => nmc tp L j1 a 23 noB fun b j2 => (0, j2, uu_ (uu_ R 4 a) 5 b)
def perR (R : Int → Int) (a b c : Int) : Int → Int := uu_ (uu_ (uu_ (uu_ (uu_ (uu_ (uu_ R (10 + 6 * R 2) a) (10 + 6 * R 2 + 1) b) (10 + 6 * R 2 + 2) c) (10 + 6 * R 2 + 3) 0) (10 + 6 * R 2 + 4) 0) (10 + 6 * R 2 + 5) (-1)) 2 (R 2 + 1)
noncomputable def cPer (tp : Int → Int) (L j : Int) (R : Int → Int) : RS := nmc tp L j 0 (R 0 - 1) noB fun a j1 => nmc tp L j1 0 (R 0 - 1) noB fun b j2 => nmc tp L j2 0 50 noB fun c j3 => (0, j3, perR R a b c)
noncomputable def cLin (tp : Int → Int) (L j : Int) (R : Int → Int) : RS :=
  pI (wc tp L j = wSc 0) (pI (0 < R 0) (fltR (1 + 8 * j + 4)) (cCas tp L (nx tp L j) R))
  (pI (R 0 = 0) (fltR (1 + 8 * j + 4))
  (pI (wc tp L j = wSc 1) (cFar tp L (nx tp L j) R)
  (pI (wc tp L j = wSc 2) (pI (R 1 = 14) (fltR (1 + 8 * j + 4)) (cDor tp L (nx tp L j) 0 R))
  (pI (wc tp L j = wSc 3) (pI (R 1 = 14) (fltR (1 + 8 * j + 4)) (cDor tp L (nx tp L j) 1 R))
  (pI (wc tp L j = wSc 4) (pI (0 ≤ R 4) (fltR (1 + 8 * j + 4)) (cNig tp L (nx tp L j) R))
  (pI (R 2 = 4) (fltR (1 + 8 * j + 4)) (cPer tp L (nx tp L j) R)))))))
def kwP (tp : Int → Int) (L j : Int) : Prop := wc tp L j = wSc 0 ∨ wc tp L j = wSc 1 ∨ wc tp L j = wSc 2 ∨ wc tp L j = wSc 3 ∨ wc tp L j = wSc 4 ∨ wc tp L j = wSc 5
noncomputable def cCl (tp : Int → Int) (L j n : Int) (R : Int → Int) : RS := pI (kwP tp L j) (pI (n = 40) (fltR (1 + 8 * j + 4)) (cLin tp L j R)) (fltR (1 + 8 * j))
noncomputable def rdC (tp : Int → Int) (L : Int) : Nat → Int → Int → (Int → Int) → RS
  | 0, _, _, _ => fltR 1
  | m + 1, j, n, R => pI ((cCl tp L j n R).1 = 0) (pI (L ≤ (cCl tp L j n R).2.1) (0, (cCl tp L j n R).2.1, (cCl tp L j n R).2.2) (pI (tp (cCl tp L j n R).2.1 = 59) (rdC tp L m (nx tp L (cCl tp L j n R).2.1) (n + 1) (cCl tp L j n R).2.2) (fltR (1 + 8 * (cCl tp L j n R).2.1)))) (fltR (cCl tp L j n R).1)
def CI (n : Int) (R : Int → Int) : Prop := (0 ≤ n ∧ n ≤ 40 ∧ (n = 0 ↔ R 0 = 0) ∧ (R 0 = 0 ∨ 2 ≤ R 0 ∧ R 0 ≤ 8)) ∧ (0 ≤ R 1 ∧ R 1 ≤ 14 ∧ 0 ≤ R 2 ∧ R 2 ≤ 4 ∧ R 3 = 0) ∧ ((R 4 = -1 ∧ R 5 = -1) ∨ (0 ≤ R 4 ∧ R 4 ≤ R 5 ∧ R 5 ≤ 23)) ∧ (∀ r, 0 ≤ r → r < 8 → 0 ≤ R (34 + r) ∧ R (34 + r) ≤ 9) ∧ (∀ d, 0 ≤ d → d < R 1 → 0 ≤ R (42 + 3 * d) ∧ R (42 + 3 * d) < R 0 ∧ 0 ≤ R (42 + 3 * d + 1) ∧ R (42 + 3 * d + 1) < R 0 ∧ ¬ R (42 + 3 * d) = R (42 + 3 * d + 1) ∧ (R (42 + 3 * d + 2) = 0 ∨ R (42 + 3 * d + 2) = 1)) ∧ (∀ d e, 0 ≤ d → d < e → e < R 1 → ¬ ((R (42 + 3 * d) = R (42 + 3 * e) ∧ R (42 + 3 * d + 1) = R (42 + 3 * e + 1)) ∨ (R (42 + 3 * d) = R (42 + 3 * e + 1) ∧ R (42 + 3 * d + 1) = R (42 + 3 * e)))) ∧ (∀ p, 0 ≤ p → p < R 2 → 0 ≤ R (10 + 6 * p) ∧ R (10 + 6 * p) < R 0 ∧ 0 ≤ R (10 + 6 * p + 1) ∧ R (10 + 6 * p + 1) < R 0 ∧ 0 ≤ R (10 + 6 * p + 2) ∧ R (10 + 6 * p + 2) ≤ 50 ∧ R (10 + 6 * p + 3) = 0 ∧ R (10 + 6 * p + 4) = 0 ∧ R (10 + 6 * p + 5) = -1)
theorem nmF_0 {tp : Int → Int} {L j lo hi : Int} {bar : Int → Prop} (h0 : 0 ≤ j) (e : nmF tp L j lo hi bar = 0) : tkK tp L j = 1 ∧ (lo ≤ tkV tp L j ∧ tkV tp L j ≤ hi) ∧ ¬ bar (tkV tp L j) := by
  unfold nmF at e
  by_cases c : tkK tp L j = 1
  · rw [pI_pos c] at e
    by_cases c2 : (lo ≤ tkV tp L j ∧ tkV tp L j ≤ hi) ∧ ¬ bar (tkV tp L j)
    · exact ⟨c, c2.1, c2.2⟩
    · rw [pI_neg c2] at e; omega
  · rw [pI_neg c] at e; omega
theorem nmF_ne {tp : Int → Int} {L j lo hi : Int} {bar : Int → Prop} (h0 : 0 ≤ j) (e : ¬ nmF tp L j lo hi noB = 0) : nmF tp L j lo hi bar = nmF tp L j lo hi noB := by
  unfold nmF at e ⊢
  by_cases c : tkK tp L j = 1
  · rw [pI_pos c] at e ⊢
    rw [pI_pos c]
    by_cases c2 : (lo ≤ tkV tp L j ∧ tkV tp L j ≤ hi)
    · rw [pI_pos ⟨c2, fun z => z⟩] at e; omega
    · rw [pI_neg (fun z => c2 z.1), pI_neg (fun z => c2 z.1)]
  · rw [pI_neg c, pI_neg c]
theorem nmF_b {tp : Int → Int} {L j lo hi : Int} {bar : Int → Prop} (h0 : 0 ≤ j) (e : nmF tp L j lo hi noB = 0) : (¬ bar (tkV tp L j) → nmF tp L j lo hi bar = 0) ∧ (bar (tkV tp L j) → nmF tp L j lo hi bar = 1 + 8 * j + 1) := by
  have a := nmF_0 h0 e
  unfold nmF
  rw [pI_pos a.1]
  exact ⟨fun n => pI_pos ⟨a.2.1, n⟩, fun y => pI_neg (fun z => z.2 y)⟩
theorem nmF_rg {tp : Int → Int} {L j lo hi : Int} {bar : Int → Prop} (h0 : 0 ≤ j) (hj : j ≤ 400) : 0 ≤ nmF tp L j lo hi bar ∧ nmF tp L j lo hi bar ≤ 3300 := by
  unfold nmF
  by_cases c : tkK tp L j = 1
  · rw [pI_pos c]
    by_cases c2 : (lo ≤ tkV tp L j ∧ tkV tp L j ≤ hi) ∧ ¬ bar (tkV tp L j)
    · rw [pI_pos c2]; omega
    · rw [pI_neg c2]; omega
  · rw [pI_neg c]; omega
def TNr (c k : Nat) : Prop := (c = 256 ∧ (k = 8 ∨ k = 9 ∨ k = 10)) ∨ c = 262
theorem TNm_r {c k : Nat} (z : TNm c k) : TNr c k := Or.inl z
theorem TNx_r {c k : Nat} (z : TNx c k) : TNr c k := TNm_r (TNx_m z)
/-- what a reading r has to lead to -/
def RQ (h : AH) (tp : Int → Int) (L : Int) (r : RS) (Q : Post) : Prop := (r.1 = 0 → ∀ h', Fr TNr h h' → RkC h' tp L r.2.1 0 → aI h' 262 = r.2.2 → Q (some (.int (J 1))) h') ∧ (¬ r.1 = 0 → ∀ h', Fr TNr h h' → fI h' 256 9 = r.1 → Q (some (.int (J 0))) h')
theorem RQ.mo {h h2 : AH} {tp : Int → Int} {L : Int} {r : RS} {Q : Post} (k : RQ h tp L r Q) (F : Fr TNr h h2) : RQ h2 tp L r Q := ⟨fun e h' F' => k.1 e h' (F.tr F'), fun e h' F' => k.2 e h' (F.tr F')⟩
theorem RQ.fl {h h2 : AH} {tp : Int → Int} {L j q f : Int} {Q : Post} (k : RQ h tp L (fltR f) Q) (F : Fr TNr h h2) (hj : 0 ≤ j ∧ j ≤ 400) (hq : 0 ≤ q ∧ q ≤ 4) (e : f = 1 + 8 * j + q) : Q (some (.int (J 0))) (wF h2 256 9 (1 + 8 * j + q)) := by
  refine k.2 (by show ¬ f = 0; omega) _ (F.wF (Or.inl ⟨rfl, by omega⟩)) ?_
  rw [fI_wF_eq (by omega)]; exact e.symm
theorem TNr_n257 : ∀ k, ¬ TNr 257 k := fun k => by unfold TNr; omega
def T262 (c _k : Nat) : Prop := c = 262
theorem wA262 {h h' : AH} {e v : Int} (F : Fr T262 h h') : Fr T262 h (wA h' 262 e v) := Fr.wA F (show T262 262 _ from rfl)
theorem T262_r {c k : Nat} (z : T262 c k) : TNr c k := Or.inr z
theorem RkC.f262 {h h' : AH} {tp : Int → Int} {L j f : Int} (K : RkC h tp L j f) (F : Fr T262 h h') : RkC h' tp L j f := K.fr F (fun k z => absurd (show 257 = 262 from z) (by decide)) (fun z => absurd (show 256 = 262 from z) (by decide)) (fun z => absurd (show 256 = 262 from z) (by decide)) (fun z => absurd (show 256 = 262 from z) (by decide))
-- OutwardDoorsModel.cellHere(III)Z at 0
set_option maxRecDepth 20000 in
set_option maxHeartbeats 4000000 in
theorem r183_0 {X : Cst} {d : Nat} {x1 : Int} {x2 : Int} {x3 : Int} {h : AH} {Q : Post} (C_h : Lay h)
  (w : Ex X PG d 184 0 [some (.ref 256), some (.int (J x2)), some (.int (J x3)), none, none] [] h (fun v1 h2 => ∃ r3 : Int, (-2147483648 ≤ r3 ∧ r3 < 2147483648) ∧ v1 = some (.int (J r3)) ∧ SH h h2 ∧ ((¬ r3 = 0 → (0 ≤ x1 ∧ x1 < 84) ∧ Q (some (.int (J 1))) (wA h2 262 x1 (fI h2 256 10))) ∧ (r3 = 0 → Q (some (.int (J 0))) h2)))) :
    Ex X PG (d + 1) 183 0 [some (.ref 256), some (.int (J x1)), some (.int (J x2)), some (.int (J x3))] [] h Q := by
  refine wpx_ok (cut := []) 13 d 183 0 _ _ _ _ ?_
  show hs h 256 = (0, 11) ∧ Ex X PG d 184 0 [some (.ref 256), some (.int (J x2)), some (.int (J x3)), none, none] [] h (fun v1 h2 => ∃ r3, v1 = some (.int r3) ∧ ((¬ r3 = (J 0) → hs h2 256 = (0, 11) ∧ ∃ q6, hR h2 256 7 = some q6 ∧ hs h2 256 = (0, 11) ∧ (hs h2 q6).1 = 1 ∧ ix (J x1) (hs h2 q6).2 ∧ (J 1 = J 0 ∨ J 1 = J 1) ∧ Q (some (.int (J 1))) (wI h2 q6 (Int32.toNatClampNeg (J x1)) (hF h2 256 10))) ∧ (¬ (¬ r3 = (J 0)) → (J 0 = J 0 ∨ J 0 = J 1) ∧ Q (some (.int (J 0))) h2)))
  try simp only [aI_wAL, fI_wAL, aL_wA, aL_wF, aI_wA_ne, aI_wF_ne, fI_wA_ne, fI_wF_ne, fI_wF_nk, aL_wAL_ne, J_sameA, J_sameF, aL_same, Nat.add_left_cancel_iff, Nat.add_eq_left, Nat.left_eq_add, not_false_eq_true, Nat.reduceEqDiff, Nat.reduceAdd, J_add, J_sub, J_mul, J_neg, J_and, J_or, J_xor, J_shl, J_shr, J_div, J_i2b, J_i2l, J_l2i, J_lcm, J_max, J_min, J_nab, J_nao, rdA, rdF, rdL, wA_fold, wF_fold, wL_fold, wC_fold]
  refine ⟨(ls256 C_h), ?_⟩
  refine Ex.mono w (Nat.le_refl _) ?_
  rintro v1 h2 ⟨r3, gr3, rfl, s8, w⟩
  refine ⟨_, rfl, ?_⟩
  have C_h2 := Lay_SH s8 C_h
  try simp only [aI_wAL, fI_wAL, aL_wA, aL_wF, aI_wA_ne, aI_wF_ne, fI_wA_ne, fI_wF_ne, fI_wF_nk, aL_wAL_ne, J_sameA, J_sameF, aL_same, Nat.add_left_cancel_iff, Nat.add_eq_left, Nat.left_eq_add, not_false_eq_true, Nat.reduceEqDiff, Nat.reduceAdd, J_add, J_sub, J_mul, J_neg, J_and, J_or, J_xor, J_shl, J_shr, J_div, J_i2b, J_i2l, J_l2i, J_lcm, J_max, J_min, J_nab, J_nao, rdA, rdF, rdL, wA_fold, wF_fold, wL_fold, wC_fold]
  refine ⟨fun c4 => ?_, fun c4 => ?_⟩
  · have t5 : ¬ r3 = 0 := (fun e => c4 ((Jeq gr3 (by decide)).mpr e))
    replace w := w.1 t5
    refine ⟨(ls256 C_h2), _, (lr256_7 C_h2), ?_⟩
    refine ⟨(ls256 C_h2), ?_⟩
    obtain ⟨k7, w⟩ := w
    refine ⟨congrArg Prod.fst (ls262 C_h2), ixs (ls262 C_h2) k7 (by decide), ?_⟩
    exact ⟨(Or.inr (by trivial)), w⟩
  · have t5 : r3 = 0 := ((Jeq gr3 (by decide)).mp (Classical.byContradiction c4))
    replace w := w.2 t5
    exact ⟨(Or.inl (by trivial)), w⟩
theorem m183 {X : Cst} {d : Nat} {cell lo hi L j : Int} {tp R : Int → Int} {h : AH} {Q : Post} (C : Lay h) (hd : 3 ≤ d) (K : RkC h tp L j 0) (eR : aI h 262 = R) (hc : 0 ≤ cell ∧ cell < 84) (hl : 0 ≤ lo ∧ lo < 2147483648) (hh : -2147483648 ≤ hi ∧ hi < 2147483648)
    (k1 : nmF tp L j lo hi noB = 0 → ∀ h', Fr TNr h h' → RkC h' tp L (nx tp L j) 0 → aI h' 262 = uu_ R cell (tkV tp L j) → Q (some (.int (J 1))) h')
    (k0 : ¬ nmF tp L j lo hi noB = 0 → ∀ h', Fr TNr h h' → fI h' 256 9 = nmF tp L j lo hi noB → Q (some (.int (J 0))) h') : Ex X PG d 183 0 [some (.ref 256), some (.int (J cell)), some (.int (J lo)), some (.int (J hi))] [] h Q := by
  obtain ⟨d, rfl⟩ : ∃ e, d = e + 1 := ⟨d - 1, by omega⟩
  refine r183_0 C ?_
  refine m184 C (by omega) K hl hh (fun e h2 F2 K2 e10 => ⟨1, by omega, rfl, F2.1, fun _ => ⟨hc, ?_⟩, fun z => absurd z (by decide)⟩) (fun e h2 F2 e9 => ⟨0, by omega, rfl, F2.1, fun z => absurd rfl z, fun _ => k0 e h2 (F2.mo (fun _ _ => TNm_r)) e9⟩)
  refine k1 e _ ((F2.mo (fun _ _ => TNm_r)).wA (Or.inr rfl)) (K2.f262 (wA262 Fr.rf)) ?_
  rw [aI_wA (fI_rg _ _ _), F2.a 262 (fun k => by unfold TNm; omega), eR, e10]
-- OutwardDoorsModel.isCastleHere(I)Z at 0
set_option maxRecDepth 20000 in
set_option maxHeartbeats 4000000 in
theorem r181_0 {X : Cst} {d : Nat} {x1 : Int} {h : AH} {Q : Post} (C_h : Lay h)
  (w : ((aI h 262 0 ≤ 0 → Ex X PG d 182 0 [some (.ref 256)] [] h (fun v4 h5 => v4 = none ∧ SH h h5 ∧ Ex X PG d 183 0 [some (.ref 256), some (.int (J 0)), some (.int (J 2)), some (.int (J 8))] [] h5 (fun v6 h7 => ∃ r8 : Int, (-2147483648 ≤ r8 ∧ r8 < 2147483648) ∧ v6 = some (.int (J r8)) ∧ SH h5 h7 ∧ (r8 = 0 ∨ r8 = 1) ∧ Q (some (.int (J r8))) h7))) ∧ (¬ aI h 262 0 ≤ 0 → Ex X PG d 179 0 [some (.ref 256), some (.int (J 4)), some (.int (J x1))] [] h (fun v12 h13 => ∃ r14 : Int, (-2147483648 ≤ r14 ∧ r14 < 2147483648) ∧ v12 = some (.int (J r14)) ∧ SH h h13 ∧ (r14 = 0 ∨ r14 = 1) ∧ Q (some (.int (J r14))) h13)))) :
    Ex X PG (d + 1) 181 0 [some (.ref 256), some (.int (J x1))] [] h Q := by
  refine wpx_ok (cut := []) 13 d 181 0 _ _ _ _ ?_
  show hs h 256 = (0, 11) ∧ ∃ q1, hR h 256 7 = some q1 ∧ (hs h q1).1 = 1 ∧ ix (J 0) (hs h q1).2 ∧ (((hI h q1 (Int32.toNatClampNeg (J 0))) ≤ (J 0) → hs h 256 = (0, 11) ∧ Ex X PG d 182 0 [some (.ref 256)] [] h (fun v4 h5 => v4 = none ∧ hs h5 256 = (0, 11) ∧ Ex X PG d 183 0 [some (.ref 256), some (.int (J 0)), some (.int (J 2)), some (.int (J 8))] [] h5 (fun v6 h7 => ∃ r8, v6 = some (.int r8) ∧ (r8 = J 0 ∨ r8 = J 1) ∧ Q (some (.int r8)) h7))) ∧ (¬ ((hI h q1 (Int32.toNatClampNeg (J 0))) ≤ (J 0)) → hs h 256 = (0, 11) ∧ Ex X PG d 179 0 [some (.ref 256), some (.int (J 4)), some (.int (J x1))] [] h (fun v12 h13 => ∃ r14, v12 = some (.int r14) ∧ (r14 = J 0 ∨ r14 = J 1) ∧ Q (some (.int r14)) h13)))
  try simp only [aI_wAL, fI_wAL, aL_wA, aL_wF, aI_wA_ne, aI_wF_ne, fI_wA_ne, fI_wF_ne, fI_wF_nk, aL_wAL_ne, J_sameA, J_sameF, aL_same, Nat.add_left_cancel_iff, Nat.add_eq_left, Nat.left_eq_add, not_false_eq_true, Nat.reduceEqDiff, Nat.reduceAdd, J_add, J_sub, J_mul, J_neg, J_and, J_or, J_xor, J_shl, J_shr, J_div, J_i2b, J_i2l, J_l2i, J_lcm, J_max, J_min, J_nab, J_nao, rdA, rdF, rdL, wA_fold, wF_fold, wL_fold, wC_fold]
  refine ⟨(ls256 C_h), _, (lr256_7 C_h), ?_⟩
  refine ⟨congrArg Prod.fst (ls262 C_h), ixs (ls262 C_h) (by decide) (by decide), ?_⟩
  refine ⟨fun c2 => ?_, fun c2 => ?_⟩
  · have t3 : aI h 262 0 ≤ 0 := ((Jle (rg_toInt _) (by decide)).mp c2)
    replace w := w.1 t3
    refine ⟨(ls256 C_h), ?_⟩
    refine Ex.mono w (Nat.le_refl _) ?_
    rintro v4 h5 ⟨rfl, s11, w⟩
    refine ⟨rfl, ?_⟩
    have C_h5 := Lay_SH s11 C_h
    try simp only [aI_wAL, fI_wAL, aL_wA, aL_wF, aI_wA_ne, aI_wF_ne, fI_wA_ne, fI_wF_ne, fI_wF_nk, aL_wAL_ne, J_sameA, J_sameF, aL_same, Nat.add_left_cancel_iff, Nat.add_eq_left, Nat.left_eq_add, not_false_eq_true, Nat.reduceEqDiff, Nat.reduceAdd, J_add, J_sub, J_mul, J_neg, J_and, J_or, J_xor, J_shl, J_shr, J_div, J_i2b, J_i2l, J_l2i, J_lcm, J_max, J_min, J_nab, J_nao, rdA, rdF, rdL, wA_fold, wF_fold, wL_fold, wC_fold]
    refine ⟨(ls256 C_h5), ?_⟩
    refine Ex.mono w (Nat.le_refl _) ?_
    rintro v6 h7 ⟨r8, gr8, rfl, s10, w⟩
    refine ⟨_, rfl, ?_⟩
    have C_h7 := Lay_SH s10 C_h5
    try simp only [aI_wAL, fI_wAL, aL_wA, aL_wF, aI_wA_ne, aI_wF_ne, fI_wA_ne, fI_wF_ne, fI_wF_nk, aL_wAL_ne, J_sameA, J_sameF, aL_same, Nat.add_left_cancel_iff, Nat.add_eq_left, Nat.left_eq_add, not_false_eq_true, Nat.reduceEqDiff, Nat.reduceAdd, J_add, J_sub, J_mul, J_neg, J_and, J_or, J_xor, J_shl, J_shr, J_div, J_i2b, J_i2l, J_l2i, J_lcm, J_max, J_min, J_nab, J_nao, rdA, rdF, rdL, wA_fold, wF_fold, wL_fold, wC_fold]
    obtain ⟨k9, w⟩ := w
    exact ⟨(k9.imp (congrArg J) (congrArg J)), w⟩
  · have t3 : ¬ aI h 262 0 ≤ 0 := (fun e => c2 ((Jle (rg_toInt _) (by decide)).mpr e))
    replace w := w.2 t3
    refine ⟨(ls256 C_h), ?_⟩
    refine Ex.mono w (Nat.le_refl _) ?_
    rintro v12 h13 ⟨r14, gr14, rfl, s16, w⟩
    refine ⟨_, rfl, ?_⟩
    have C_h13 := Lay_SH s16 C_h
    try simp only [aI_wAL, fI_wAL, aL_wA, aL_wF, aI_wA_ne, aI_wF_ne, fI_wA_ne, fI_wF_ne, fI_wF_nk, aL_wAL_ne, J_sameA, J_sameF, aL_same, Nat.add_left_cancel_iff, Nat.add_eq_left, Nat.left_eq_add, not_false_eq_true, Nat.reduceEqDiff, Nat.reduceAdd, J_add, J_sub, J_mul, J_neg, J_and, J_or, J_xor, J_shl, J_shr, J_div, J_i2b, J_i2l, J_l2i, J_lcm, J_max, J_min, J_nab, J_nao, rdA, rdF, rdL, wA_fold, wF_fold, wL_fold, wC_fold]
    obtain ⟨k15, w⟩ := w
    exact ⟨(k15.imp (congrArg J) (congrArg J)), w⟩
theorem m181 {X : Cst} {d : Nat} {L j : Int} {tp R : Int → Int} {h : AH} {Q : Post} (C : Lay h) (hd : 4 ≤ d) (K : RkC h tp L j 0) (e8 : fI h 256 8 = j) (l : j < L ∧ leP (tp j)) (eR : aI h 262 = R) (k : RQ h tp L (pI (0 < R 0) (fltR (1 + 8 * j + 4)) (cCas tp L (nx tp L j) R)) Q) : Ex X PG d 181 0 [some (.ref 256), some (.int (J j))] [] h Q := by
  obtain ⟨d, rfl⟩ : ∃ e, d = e + 1 := ⟨d - 1, by omega⟩
  have kj := K.j
  refine r181_0 C ?_
  rw [eR]
  refine ⟨fun c => ?_, fun c => ?_⟩
  · rw [pI_neg (by omega)] at k
    refine m182w C (by omega) K e8 l (fun h2 F2 K2 => ⟨rfl, F2.1, ?_⟩)
    have F2r : Fr TNr h h2 := F2.mo (fun _ _ => TNx_r)
    refine m183 (R := R) (F2.C C) (by omega) K2 ((F2.a 262 (fun k => by unfold TNx; omega)).trans eR) (by omega) (by omega) (by omega) (fun e h3 F3 K3 eR3 => ⟨1, by omega, rfl, F3.1, Or.inr rfl, ?_⟩) (fun e h3 F3 e9 => ⟨0, by omega, rfl, F3.1, Or.inl rfl, ?_⟩)
    · unfold cCas at k; rw [nmc_pos e] at k; exact k.1 rfl h3 (F2r.tr F3) K3 eR3
    · unfold cCas at k; rw [nmc_neg e] at k; exact k.2 e h3 (F2r.tr F3) e9
  · rw [pI_pos (by omega)] at k
    exact m179 C (by omega) K.2.2.2.2 ⟨0, by omega, rfl, SH.rf.wF, Or.inl rfl, k.fl Fr.rf (by omega) (by omega) rfl⟩
-- OutwardDoorsModel.isFarHere()Z at 0
set_option maxRecDepth 20000 in
set_option maxHeartbeats 4000000 in
theorem r187_0 {X : Cst} {d : Nat}  {h : AH} {Q : Post} (C_h : Lay h)
  (w : Ex X PG d 182 0 [some (.ref 256)] [] h (fun v1 h2 => v1 = none ∧ SH h h2 ∧ Ex X PG d 184 0 [some (.ref 256), some (.int (J 0)), some (.int (J ((aI h2 262 0) - 1))), none, none] [] h2 (fun v4 h5 => ∃ r6 : Int, (-2147483648 ≤ r6 ∧ r6 < 2147483648) ∧ v4 = some (.int (J r6)) ∧ SH h2 h5 ∧ ((¬ r6 = 0 → Ex X PG d 183 0 [some (.ref 256), some (.int (J (34 + (fI h5 256 10)))), some (.int (J 0)), some (.int (J 9))] [] h5 (fun v9 h10 => ∃ r11 : Int, (-2147483648 ≤ r11 ∧ r11 < 2147483648) ∧ v9 = some (.int (J r11)) ∧ SH h5 h10 ∧ (r11 = 0 ∨ r11 = 1) ∧ Q (some (.int (J r11))) h10)) ∧ (r6 = 0 → Q (some (.int (J 0))) h5))))) :
    Ex X PG (d + 1) 187 0 [some (.ref 256)] [] h Q := by
  refine wpx_ok (cut := []) 21 d 187 0 _ _ _ _ ?_
  show hs h 256 = (0, 11) ∧ Ex X PG d 182 0 [some (.ref 256)] [] h (fun v1 h2 => v1 = none ∧ hs h2 256 = (0, 11) ∧ ∃ q3, hR h2 256 7 = some q3 ∧ (hs h2 q3).1 = 1 ∧ ix (J 0) (hs h2 q3).2 ∧ hs h2 256 = (0, 11) ∧ Ex X PG d 184 0 [some (.ref 256), some (.int (J 0)), some (.int ((hI h2 q3 (Int32.toNatClampNeg (J 0))) - (J 1))), none, none] [] h2 (fun v4 h5 => ∃ r6, v4 = some (.int r6) ∧ ((¬ r6 = (J 0) → hs h5 256 = (0, 11) ∧ hs h5 256 = (0, 11) ∧ Ex X PG d 183 0 [some (.ref 256), some (.int ((J 34) + (hF h5 256 10))), some (.int (J 0)), some (.int (J 9))] [] h5 (fun v9 h10 => ∃ r11, v9 = some (.int r11) ∧ (r11 = J 0 ∨ r11 = J 1) ∧ Q (some (.int r11)) h10)) ∧ (¬ (¬ r6 = (J 0)) → (J 0 = J 0 ∨ J 0 = J 1) ∧ Q (some (.int (J 0))) h5))))
  try simp only [aI_wAL, fI_wAL, aL_wA, aL_wF, aI_wA_ne, aI_wF_ne, fI_wA_ne, fI_wF_ne, fI_wF_nk, aL_wAL_ne, J_sameA, J_sameF, aL_same, Nat.add_left_cancel_iff, Nat.add_eq_left, Nat.left_eq_add, not_false_eq_true, Nat.reduceEqDiff, Nat.reduceAdd, J_add, J_sub, J_mul, J_neg, J_and, J_or, J_xor, J_shl, J_shr, J_div, J_i2b, J_i2l, J_l2i, J_lcm, J_max, J_min, J_nab, J_nao, rdA, rdF, rdL, wA_fold, wF_fold, wL_fold, wC_fold]
  refine ⟨(ls256 C_h), ?_⟩
  refine Ex.mono w (Nat.le_refl _) ?_
  rintro v1 h2 ⟨rfl, s15, w⟩
  refine ⟨rfl, ?_⟩
  have C_h2 := Lay_SH s15 C_h
  try simp only [aI_wAL, fI_wAL, aL_wA, aL_wF, aI_wA_ne, aI_wF_ne, fI_wA_ne, fI_wF_ne, fI_wF_nk, aL_wAL_ne, J_sameA, J_sameF, aL_same, Nat.add_left_cancel_iff, Nat.add_eq_left, Nat.left_eq_add, not_false_eq_true, Nat.reduceEqDiff, Nat.reduceAdd, J_add, J_sub, J_mul, J_neg, J_and, J_or, J_xor, J_shl, J_shr, J_div, J_i2b, J_i2l, J_l2i, J_lcm, J_max, J_min, J_nab, J_nao, rdA, rdF, rdL, wA_fold, wF_fold, wL_fold, wC_fold]
  refine ⟨(ls256 C_h2), _, (lr256_7 C_h2), ?_⟩
  refine ⟨congrArg Prod.fst (ls262 C_h2), ixs (ls262 C_h2) (by decide) (by decide), ?_⟩
  refine ⟨(ls256 C_h2), ?_⟩
  refine Ex.mono w (Nat.le_refl _) ?_
  rintro v4 h5 ⟨r6, gr6, rfl, s14, w⟩
  refine ⟨_, rfl, ?_⟩
  have C_h5 := Lay_SH s14 C_h2
  try simp only [aI_wAL, fI_wAL, aL_wA, aL_wF, aI_wA_ne, aI_wF_ne, fI_wA_ne, fI_wF_ne, fI_wF_nk, aL_wAL_ne, J_sameA, J_sameF, aL_same, Nat.add_left_cancel_iff, Nat.add_eq_left, Nat.left_eq_add, not_false_eq_true, Nat.reduceEqDiff, Nat.reduceAdd, J_add, J_sub, J_mul, J_neg, J_and, J_or, J_xor, J_shl, J_shr, J_div, J_i2b, J_i2l, J_l2i, J_lcm, J_max, J_min, J_nab, J_nao, rdA, rdF, rdL, wA_fold, wF_fold, wL_fold, wC_fold]
  refine ⟨fun c7 => ?_, fun c7 => ?_⟩
  · have t8 : ¬ r6 = 0 := (fun e => c7 ((Jeq gr6 (by decide)).mpr e))
    replace w := w.1 t8
    refine ⟨(ls256 C_h5), ?_⟩
    refine ⟨(ls256 C_h5), ?_⟩
    refine Ex.mono w (Nat.le_refl _) ?_
    rintro v9 h10 ⟨r11, gr11, rfl, s13, w⟩
    refine ⟨_, rfl, ?_⟩
    have C_h10 := Lay_SH s13 C_h5
    try simp only [aI_wAL, fI_wAL, aL_wA, aL_wF, aI_wA_ne, aI_wF_ne, fI_wA_ne, fI_wF_ne, fI_wF_nk, aL_wAL_ne, J_sameA, J_sameF, aL_same, Nat.add_left_cancel_iff, Nat.add_eq_left, Nat.left_eq_add, not_false_eq_true, Nat.reduceEqDiff, Nat.reduceAdd, J_add, J_sub, J_mul, J_neg, J_and, J_or, J_xor, J_shl, J_shr, J_div, J_i2b, J_i2l, J_l2i, J_lcm, J_max, J_min, J_nab, J_nao, rdA, rdF, rdL, wA_fold, wF_fold, wL_fold, wC_fold]
    obtain ⟨k12, w⟩ := w
    exact ⟨(k12.imp (congrArg J) (congrArg J)), w⟩
  · have t8 : r6 = 0 := ((Jeq gr6 (by decide)).mp (Classical.byContradiction c7))
    replace w := w.2 t8
    exact ⟨(Or.inl (by trivial)), w⟩
theorem m187 {X : Cst} {d : Nat} {L j : Int} {tp R : Int → Int} {h : AH} {Q : Post} (C : Lay h) (hd : 4 ≤ d) (K : RkC h tp L j 0) (e8 : fI h 256 8 = j) (l : j < L ∧ leP (tp j)) (eR : aI h 262 = R) (R0 : 0 ≤ R 0 ∧ R 0 ≤ 8) (k : RQ h tp L (cFar tp L (nx tp L j) R) Q) : Ex X PG d 187 0 [some (.ref 256)] [] h Q := by
  obtain ⟨d, rfl⟩ : ∃ e, d = e + 1 := ⟨d - 1, by omega⟩
  have kj := K.j
  refine r187_0 C ?_
  refine m182w C (by omega) K e8 l (fun h2 F2 K2 => ⟨rfl, F2.1, ?_⟩)
  have F2r : Fr TNr h h2 := F2.mo (fun _ _ => TNx_r)
  have eR2 := (F2.a 262 (fun k => by unfold TNx; omega)).trans eR
  rw [eR2]
  have k2j := K2.j
  refine m184 (F2.C C) (by omega) K2 (by omega) (by omega) (fun e h3 F3 K3 e10 => ⟨1, by omega, rfl, F3.1, fun _ => ?_, fun z => absurd z (by decide)⟩) (fun e h3 F3 e9 => ⟨0, by omega, rfl, F3.1, fun z => absurd rfl z, fun _ => ?_⟩)
  · have F3r := F2r.tr (F3.mo (fun _ _ => TNm_r))
    have eR3 := (F3.a 262 (fun k => by unfold TNm; omega)).trans eR2
    have v := nmF_0 k2j.1 e
    rw [e10]
    unfold cFar at k
    rw [nmc_pos e] at k
    refine m183 (R := R) (F3r.C C) (by omega) K3 eR3 (by omega) (by omega) (by omega) (fun e' h4 F4 K4 eR4 => ⟨1, by omega, rfl, F4.1, Or.inr rfl, ?_⟩) (fun e' h4 F4 e9 => ⟨0, by omega, rfl, F4.1, Or.inl rfl, ?_⟩)
    · rw [nmc_pos e'] at k; exact k.1 rfl h4 (F3r.tr F4) K4 eR4
    · rw [nmc_neg e'] at k; exact k.2 e' h4 (F3r.tr F4) e9
  · unfold cFar at k; rw [nmc_neg e] at k; exact k.2 e h3 (F2r.tr (F3.mo (fun _ _ => TNm_r))) e9
-- OutwardDoorsModel.isNightHere(I)Z at 0
set_option maxRecDepth 20000 in
set_option maxHeartbeats 4000000 in
theorem r189_0 {X : Cst} {d : Nat} {x1 : Int} {h : AH} {Q : Post} (C_h : Lay h)
  (w : ((aI h 262 4 < 0 → Ex X PG d 182 0 [some (.ref 256)] [] h (fun v4 h5 => v4 = none ∧ SH h h5 ∧ Ex X PG d 183 0 [some (.ref 256), some (.int (J 4)), some (.int (J 0)), some (.int (J 23))] [] h5 (fun v6 h7 => ∃ r8 : Int, (-2147483648 ≤ r8 ∧ r8 < 2147483648) ∧ v6 = some (.int (J r8)) ∧ SH h5 h7 ∧ ((r8 = 0 → Q (some (.int (J 0))) h7) ∧ (¬ r8 = 0 → Ex X PG d 183 0 [some (.ref 256), some (.int (J 5)), some (.int (J (aI h7 262 4))), some (.int (J 23))] [] h7 (fun v12 h13 => ∃ r14 : Int, (-2147483648 ≤ r14 ∧ r14 < 2147483648) ∧ v12 = some (.int (J r14)) ∧ SH h7 h13 ∧ ((r14 = 0 → Q (some (.int (J 0))) h13) ∧ (¬ r14 = 0 → Q (some (.int (J 1))) h13)))))))) ∧ (¬ aI h 262 4 < 0 → Ex X PG d 179 0 [some (.ref 256), some (.int (J 4)), some (.int (J x1))] [] h (fun v20 h21 => ∃ r22 : Int, (-2147483648 ≤ r22 ∧ r22 < 2147483648) ∧ v20 = some (.int (J r22)) ∧ SH h h21 ∧ (r22 = 0 ∨ r22 = 1) ∧ Q (some (.int (J r22))) h21)))) :
    Ex X PG (d + 1) 189 0 [some (.ref 256), some (.int (J x1))] [] h Q := by
  refine wpx_ok (cut := []) 25 d 189 0 _ _ _ _ ?_
  show hs h 256 = (0, 11) ∧ ∃ q1, hR h 256 7 = some q1 ∧ (hs h q1).1 = 1 ∧ ix (J 4) (hs h q1).2 ∧ (((hI h q1 (Int32.toNatClampNeg (J 4))) < (J 0) → hs h 256 = (0, 11) ∧ Ex X PG d 182 0 [some (.ref 256)] [] h (fun v4 h5 => v4 = none ∧ hs h5 256 = (0, 11) ∧ Ex X PG d 183 0 [some (.ref 256), some (.int (J 4)), some (.int (J 0)), some (.int (J 23))] [] h5 (fun v6 h7 => ∃ r8, v6 = some (.int r8) ∧ ((r8 = (J 0) → (J 0 = J 0 ∨ J 0 = J 1) ∧ Q (some (.int (J 0))) h7) ∧ (¬ (r8 = (J 0)) → hs h7 256 = (0, 11) ∧ ∃ q11, hR h7 256 7 = some q11 ∧ (hs h7 q11).1 = 1 ∧ ix (J 4) (hs h7 q11).2 ∧ hs h7 256 = (0, 11) ∧ Ex X PG d 183 0 [some (.ref 256), some (.int (J 5)), some (.int (hI h7 q11 (Int32.toNatClampNeg (J 4)))), some (.int (J 23))] [] h7 (fun v12 h13 => ∃ r14, v12 = some (.int r14) ∧ ((r14 = (J 0) → (J 0 = J 0 ∨ J 0 = J 1) ∧ Q (some (.int (J 0))) h13) ∧ (¬ (r14 = (J 0)) → (J 1 = J 0 ∨ J 1 = J 1) ∧ Q (some (.int (J 1))) h13)))))))) ∧ (¬ ((hI h q1 (Int32.toNatClampNeg (J 4))) < (J 0)) → hs h 256 = (0, 11) ∧ Ex X PG d 179 0 [some (.ref 256), some (.int (J 4)), some (.int (J x1))] [] h (fun v20 h21 => ∃ r22, v20 = some (.int r22) ∧ (r22 = J 0 ∨ r22 = J 1) ∧ Q (some (.int r22)) h21)))
  try simp only [aI_wAL, fI_wAL, aL_wA, aL_wF, aI_wA_ne, aI_wF_ne, fI_wA_ne, fI_wF_ne, fI_wF_nk, aL_wAL_ne, J_sameA, J_sameF, aL_same, Nat.add_left_cancel_iff, Nat.add_eq_left, Nat.left_eq_add, not_false_eq_true, Nat.reduceEqDiff, Nat.reduceAdd, J_add, J_sub, J_mul, J_neg, J_and, J_or, J_xor, J_shl, J_shr, J_div, J_i2b, J_i2l, J_l2i, J_lcm, J_max, J_min, J_nab, J_nao, rdA, rdF, rdL, wA_fold, wF_fold, wL_fold, wC_fold]
  refine ⟨(ls256 C_h), _, (lr256_7 C_h), ?_⟩
  refine ⟨congrArg Prod.fst (ls262 C_h), ixs (ls262 C_h) (by decide) (by decide), ?_⟩
  refine ⟨fun c2 => ?_, fun c2 => ?_⟩
  · have t3 : aI h 262 4 < 0 := ((Jlt (rg_toInt _) (by decide)).mp c2)
    replace w := w.1 t3
    refine ⟨(ls256 C_h), ?_⟩
    refine Ex.mono w (Nat.le_refl _) ?_
    rintro v4 h5 ⟨rfl, s19, w⟩
    refine ⟨rfl, ?_⟩
    have C_h5 := Lay_SH s19 C_h
    try simp only [aI_wAL, fI_wAL, aL_wA, aL_wF, aI_wA_ne, aI_wF_ne, fI_wA_ne, fI_wF_ne, fI_wF_nk, aL_wAL_ne, J_sameA, J_sameF, aL_same, Nat.add_left_cancel_iff, Nat.add_eq_left, Nat.left_eq_add, not_false_eq_true, Nat.reduceEqDiff, Nat.reduceAdd, J_add, J_sub, J_mul, J_neg, J_and, J_or, J_xor, J_shl, J_shr, J_div, J_i2b, J_i2l, J_l2i, J_lcm, J_max, J_min, J_nab, J_nao, rdA, rdF, rdL, wA_fold, wF_fold, wL_fold, wC_fold]
    refine ⟨(ls256 C_h5), ?_⟩
    refine Ex.mono w (Nat.le_refl _) ?_
    rintro v6 h7 ⟨r8, gr8, rfl, s18, w⟩
    refine ⟨_, rfl, ?_⟩
    have C_h7 := Lay_SH s18 C_h5
    try simp only [aI_wAL, fI_wAL, aL_wA, aL_wF, aI_wA_ne, aI_wF_ne, fI_wA_ne, fI_wF_ne, fI_wF_nk, aL_wAL_ne, J_sameA, J_sameF, aL_same, Nat.add_left_cancel_iff, Nat.add_eq_left, Nat.left_eq_add, not_false_eq_true, Nat.reduceEqDiff, Nat.reduceAdd, J_add, J_sub, J_mul, J_neg, J_and, J_or, J_xor, J_shl, J_shr, J_div, J_i2b, J_i2l, J_l2i, J_lcm, J_max, J_min, J_nab, J_nao, rdA, rdF, rdL, wA_fold, wF_fold, wL_fold, wC_fold]
    refine ⟨fun c9 => ?_, fun c9 => ?_⟩
    · have t10 : r8 = 0 := ((Jeq gr8 (by decide)).mp c9)
      replace w := w.1 t10
      exact ⟨(Or.inl (by trivial)), w⟩
    · have t10 : ¬ r8 = 0 := (fun e => c9 ((Jeq gr8 (by decide)).mpr e))
      replace w := w.2 t10
      refine ⟨(ls256 C_h7), _, (lr256_7 C_h7), ?_⟩
      refine ⟨congrArg Prod.fst (ls262 C_h7), ixs (ls262 C_h7) (by decide) (by decide), ?_⟩
      refine ⟨(ls256 C_h7), ?_⟩
      refine Ex.mono w (Nat.le_refl _) ?_
      rintro v12 h13 ⟨r14, gr14, rfl, s17, w⟩
      refine ⟨_, rfl, ?_⟩
      have C_h13 := Lay_SH s17 C_h7
      try simp only [aI_wAL, fI_wAL, aL_wA, aL_wF, aI_wA_ne, aI_wF_ne, fI_wA_ne, fI_wF_ne, fI_wF_nk, aL_wAL_ne, J_sameA, J_sameF, aL_same, Nat.add_left_cancel_iff, Nat.add_eq_left, Nat.left_eq_add, not_false_eq_true, Nat.reduceEqDiff, Nat.reduceAdd, J_add, J_sub, J_mul, J_neg, J_and, J_or, J_xor, J_shl, J_shr, J_div, J_i2b, J_i2l, J_l2i, J_lcm, J_max, J_min, J_nab, J_nao, rdA, rdF, rdL, wA_fold, wF_fold, wL_fold, wC_fold]
      refine ⟨fun c15 => ?_, fun c15 => ?_⟩
      · have t16 : r14 = 0 := ((Jeq gr14 (by decide)).mp c15)
        replace w := w.1 t16
        exact ⟨(Or.inl (by trivial)), w⟩
      · have t16 : ¬ r14 = 0 := (fun e => c15 ((Jeq gr14 (by decide)).mpr e))
        replace w := w.2 t16
        exact ⟨(Or.inr (by trivial)), w⟩
  · have t3 : ¬ aI h 262 4 < 0 := (fun e => c2 ((Jlt (rg_toInt _) (by decide)).mpr e))
    replace w := w.2 t3
    refine ⟨(ls256 C_h), ?_⟩
    refine Ex.mono w (Nat.le_refl _) ?_
    rintro v20 h21 ⟨r22, gr22, rfl, s24, w⟩
    refine ⟨_, rfl, ?_⟩
    have C_h21 := Lay_SH s24 C_h
    try simp only [aI_wAL, fI_wAL, aL_wA, aL_wF, aI_wA_ne, aI_wF_ne, fI_wA_ne, fI_wF_ne, fI_wF_nk, aL_wAL_ne, J_sameA, J_sameF, aL_same, Nat.add_left_cancel_iff, Nat.add_eq_left, Nat.left_eq_add, not_false_eq_true, Nat.reduceEqDiff, Nat.reduceAdd, J_add, J_sub, J_mul, J_neg, J_and, J_or, J_xor, J_shl, J_shr, J_div, J_i2b, J_i2l, J_l2i, J_lcm, J_max, J_min, J_nab, J_nao, rdA, rdF, rdL, wA_fold, wF_fold, wL_fold, wC_fold]
    obtain ⟨k23, w⟩ := w
    exact ⟨(k23.imp (congrArg J) (congrArg J)), w⟩
theorem m189 {X : Cst} {d : Nat} {L j : Int} {tp R : Int → Int} {h : AH} {Q : Post} (C : Lay h) (hd : 4 ≤ d) (K : RkC h tp L j 0) (e8 : fI h 256 8 = j) (l : j < L ∧ leP (tp j)) (eR : aI h 262 = R) (k : RQ h tp L (pI (0 ≤ R 4) (fltR (1 + 8 * j + 4)) (cNig tp L (nx tp L j) R)) Q) : Ex X PG d 189 0 [some (.ref 256), some (.int (J j))] [] h Q := by
  obtain ⟨d, rfl⟩ : ∃ e, d = e + 1 := ⟨d - 1, by omega⟩
  have kj := K.j
  refine r189_0 C ?_
  rw [eR]
  refine ⟨fun c => ?_, fun c => ?_⟩
  · rw [pI_neg (by omega)] at k
    refine m182w C (by omega) K e8 l (fun h2 F2 K2 => ⟨rfl, F2.1, ?_⟩)
    have F2r : Fr TNr h h2 := F2.mo (fun _ _ => TNx_r)
    have k2j := K2.j
    refine m183 (R := R) (F2.C C) (by omega) K2 ((F2.a 262 (fun k => by unfold TNx; omega)).trans eR) (by omega) (by omega) (by omega) (fun e h3 F3 K3 eR3 => ⟨1, by omega, rfl, F3.1, fun z => absurd z (by decide), fun _ => ?_⟩) (fun e h3 F3 e9 => ⟨0, by omega, rfl, F3.1, fun _ => ?_, fun z => absurd rfl z⟩)
    · unfold cNig at k; rw [nmc_pos e] at k
      have v := nmF_0 k2j.1 e
      rw [eR3, uu_eq]
      refine m183 (R := uu_ R 4 (tkV tp L (nx tp L j))) (F3.C (F2.C C)) (by omega) K3 eR3 (by omega) (by omega) (by omega) (fun e' h4 F4 K4 eR4 => ⟨1, by omega, rfl, F4.1, fun z => absurd z (by decide), fun _ => ?_⟩) (fun e' h4 F4 e9 => ⟨0, by omega, rfl, F4.1, fun _ => ?_, fun z => absurd rfl z⟩)
      · rw [nmc_pos e'] at k; exact k.1 rfl h4 ((F2r.tr F3).tr F4) K4 eR4
      · rw [nmc_neg e'] at k; exact k.2 e' h4 ((F2r.tr F3).tr F4) e9
    · unfold cNig at k; rw [nmc_neg e] at k; exact k.2 e h3 (F2r.tr F3) e9
  · rw [pI_pos (by omega)] at k
    exact m179 C (by omega) K.2.2.2.2 ⟨0, by omega, rfl, SH.rf.wF, Or.inl rfl, k.fl Fr.rf (by omega) (by omega) rfl⟩
-- OutwardDoorsModel.isPersonHere(I)Z at 0
set_option maxRecDepth 20000 in
set_option maxHeartbeats 4000000 in
theorem r190_0 {X : Cst} {d : Nat} {x1 : Int} {h : AH} {Q : Post} (C_h : Lay h)
  (w : ((¬ aI h 262 2 = 4 → Ex X PG d 182 0 [some (.ref 256)] [] h (fun v4 h5 => v4 = none ∧ SH h h5 ∧ Ex X PG d 183 0 [some (.ref 256), some (.int (J (10 + (6 * (aI h5 262 2))))), some (.int (J 0)), some (.int (J ((aI h5 262 0) - 1)))] [] h5 (fun v8 h9 => ∃ r10 : Int, (-2147483648 ≤ r10 ∧ r10 < 2147483648) ∧ v8 = some (.int (J r10)) ∧ SH h5 h9 ∧ ((r10 = 0 → Q (some (.int (J 0))) h9) ∧ (¬ r10 = 0 → Ex X PG d 183 0 [some (.ref 256), some (.int (J ((10 + (6 * (aI h5 262 2))) + 1))), some (.int (J 0)), some (.int (J ((aI h9 262 0) - 1)))] [] h9 (fun v14 h15 => ∃ r16 : Int, (-2147483648 ≤ r16 ∧ r16 < 2147483648) ∧ v14 = some (.int (J r16)) ∧ SH h9 h15 ∧ ((r16 = 0 → Q (some (.int (J 0))) h15) ∧ (¬ r16 = 0 → Ex X PG d 183 0 [some (.ref 256), some (.int (J ((10 + (6 * (aI h5 262 2))) + 2))), some (.int (J 0)), some (.int (J 50))] [] h15 (fun v19 h20 => ∃ r21 : Int, (-2147483648 ≤ r21 ∧ r21 < 2147483648) ∧ v19 = some (.int (J r21)) ∧ SH h15 h20 ∧ ((¬ r21 = 0 → (0 ≤ (10 + (6 * (aI h5 262 2))) + 3 ∧ (10 + (6 * (aI h5 262 2))) + 3 < 84) ∧ (0 ≤ (10 + (6 * (aI h5 262 2))) + 4 ∧ (10 + (6 * (aI h5 262 2))) + 4 < 84) ∧ (0 ≤ (10 + (6 * (aI h5 262 2))) + 5 ∧ (10 + (6 * (aI h5 262 2))) + 5 < 84) ∧ Q (some (.int (J 1))) (wA (wA (wA (wA h20 262 ((10 + (6 * (aI h5 262 2))) + 3) 0) 262 ((10 + (6 * (aI h5 262 2))) + 4) 0) 262 ((10 + (6 * (aI h5 262 2))) + 5) (-1)) 262 2 ((aI (wA (wA (wA h20 262 ((10 + (6 * (aI h5 262 2))) + 3) 0) 262 ((10 + (6 * (aI h5 262 2))) + 4) 0) 262 ((10 + (6 * (aI h5 262 2))) + 5) (-1)) 262 2) + 1))) ∧ (r21 = 0 → Q (some (.int (J 0))) h20))))))))))) ∧ (aI h 262 2 = 4 → Ex X PG d 179 0 [some (.ref 256), some (.int (J 4)), some (.int (J x1))] [] h (fun v35 h36 => ∃ r37 : Int, (-2147483648 ≤ r37 ∧ r37 < 2147483648) ∧ v35 = some (.int (J r37)) ∧ SH h h36 ∧ (r37 = 0 ∨ r37 = 1) ∧ Q (some (.int (J r37))) h36)))) :
    Ex X PG (d + 1) 190 0 [some (.ref 256), some (.int (J x1)), none] [] h Q := by
  refine wpx_ok (cut := []) 80 d 190 0 _ _ _ _ ?_
  show hs h 256 = (0, 11) ∧ ∃ q1, hR h 256 7 = some q1 ∧ (hs h q1).1 = 1 ∧ ix (J 2) (hs h q1).2 ∧ ((¬ (hI h q1 (Int32.toNatClampNeg (J 2))) = (J 4) → hs h 256 = (0, 11) ∧ Ex X PG d 182 0 [some (.ref 256)] [] h (fun v4 h5 => v4 = none ∧ hs h5 256 = (0, 11) ∧ ∃ q6, hR h5 256 7 = some q6 ∧ (hs h5 q6).1 = 1 ∧ ix (J 2) (hs h5 q6).2 ∧ hs h5 256 = (0, 11) ∧ ∃ q7, hR h5 256 7 = some q7 ∧ (hs h5 q7).1 = 1 ∧ ix (J 0) (hs h5 q7).2 ∧ hs h5 256 = (0, 11) ∧ Ex X PG d 183 0 [some (.ref 256), some (.int ((J 10) + ((J 6) * (hI h5 q6 (Int32.toNatClampNeg (J 2)))))), some (.int (J 0)), some (.int ((hI h5 q7 (Int32.toNatClampNeg (J 0))) - (J 1)))] [] h5 (fun v8 h9 => ∃ r10, v8 = some (.int r10) ∧ ((r10 = (J 0) → (J 0 = J 0 ∨ J 0 = J 1) ∧ Q (some (.int (J 0))) h9) ∧ (¬ (r10 = (J 0)) → hs h9 256 = (0, 11) ∧ ∃ q13, hR h9 256 7 = some q13 ∧ (hs h9 q13).1 = 1 ∧ ix (J 0) (hs h9 q13).2 ∧ hs h9 256 = (0, 11) ∧ Ex X PG d 183 0 [some (.ref 256), some (.int (((J 10) + ((J 6) * (hI h5 q6 (Int32.toNatClampNeg (J 2))))) + (J 1))), some (.int (J 0)), some (.int ((hI h9 q13 (Int32.toNatClampNeg (J 0))) - (J 1)))] [] h9 (fun v14 h15 => ∃ r16, v14 = some (.int r16) ∧ ((r16 = (J 0) → (J 0 = J 0 ∨ J 0 = J 1) ∧ Q (some (.int (J 0))) h15) ∧ (¬ (r16 = (J 0)) → hs h15 256 = (0, 11) ∧ Ex X PG d 183 0 [some (.ref 256), some (.int (((J 10) + ((J 6) * (hI h5 q6 (Int32.toNatClampNeg (J 2))))) + (J 2))), some (.int (J 0)), some (.int (J 50))] [] h15 (fun v19 h20 => ∃ r21, v19 = some (.int r21) ∧ ((¬ r21 = (J 0) → hs h20 256 = (0, 11) ∧ ∃ q24, hR h20 256 7 = some q24 ∧ (hs h20 q24).1 = 1 ∧ ix (((J 10) + ((J 6) * (hI h5 q6 (Int32.toNatClampNeg (J 2))))) + (J 3)) (hs h20 q24).2 ∧ hs (wI h20 q24 (Int32.toNatClampNeg (((J 10) + ((J 6) * (hI h5 q6 (Int32.toNatClampNeg (J 2))))) + (J 3))) (J 0)) 256 = (0, 11) ∧ ∃ q26, hR (wI h20 q24 (Int32.toNatClampNeg (((J 10) + ((J 6) * (hI h5 q6 (Int32.toNatClampNeg (J 2))))) + (J 3))) (J 0)) 256 7 = some q26 ∧ (hs (wI h20 q24 (Int32.toNatClampNeg (((J 10) + ((J 6) * (hI h5 q6 (Int32.toNatClampNeg (J 2))))) + (J 3))) (J 0)) q26).1 = 1 ∧ ix (((J 10) + ((J 6) * (hI h5 q6 (Int32.toNatClampNeg (J 2))))) + (J 4)) (hs (wI h20 q24 (Int32.toNatClampNeg (((J 10) + ((J 6) * (hI h5 q6 (Int32.toNatClampNeg (J 2))))) + (J 3))) (J 0)) q26).2 ∧ hs (wI (wI h20 q24 (Int32.toNatClampNeg (((J 10) + ((J 6) * (hI h5 q6 (Int32.toNatClampNeg (J 2))))) + (J 3))) (J 0)) q26 (Int32.toNatClampNeg (((J 10) + ((J 6) * (hI h5 q6 (Int32.toNatClampNeg (J 2))))) + (J 4))) (J 0)) 256 = (0, 11) ∧ ∃ q28, hR (wI (wI h20 q24 (Int32.toNatClampNeg (((J 10) + ((J 6) * (hI h5 q6 (Int32.toNatClampNeg (J 2))))) + (J 3))) (J 0)) q26 (Int32.toNatClampNeg (((J 10) + ((J 6) * (hI h5 q6 (Int32.toNatClampNeg (J 2))))) + (J 4))) (J 0)) 256 7 = some q28 ∧ (hs (wI (wI h20 q24 (Int32.toNatClampNeg (((J 10) + ((J 6) * (hI h5 q6 (Int32.toNatClampNeg (J 2))))) + (J 3))) (J 0)) q26 (Int32.toNatClampNeg (((J 10) + ((J 6) * (hI h5 q6 (Int32.toNatClampNeg (J 2))))) + (J 4))) (J 0)) q28).1 = 1 ∧ ix (((J 10) + ((J 6) * (hI h5 q6 (Int32.toNatClampNeg (J 2))))) + (J 5)) (hs (wI (wI h20 q24 (Int32.toNatClampNeg (((J 10) + ((J 6) * (hI h5 q6 (Int32.toNatClampNeg (J 2))))) + (J 3))) (J 0)) q26 (Int32.toNatClampNeg (((J 10) + ((J 6) * (hI h5 q6 (Int32.toNatClampNeg (J 2))))) + (J 4))) (J 0)) q28).2 ∧ hs (wI (wI (wI h20 q24 (Int32.toNatClampNeg (((J 10) + ((J 6) * (hI h5 q6 (Int32.toNatClampNeg (J 2))))) + (J 3))) (J 0)) q26 (Int32.toNatClampNeg (((J 10) + ((J 6) * (hI h5 q6 (Int32.toNatClampNeg (J 2))))) + (J 4))) (J 0)) q28 (Int32.toNatClampNeg (((J 10) + ((J 6) * (hI h5 q6 (Int32.toNatClampNeg (J 2))))) + (J 5))) (J (-1))) 256 = (0, 11) ∧ ∃ q30, hR (wI (wI (wI h20 q24 (Int32.toNatClampNeg (((J 10) + ((J 6) * (hI h5 q6 (Int32.toNatClampNeg (J 2))))) + (J 3))) (J 0)) q26 (Int32.toNatClampNeg (((J 10) + ((J 6) * (hI h5 q6 (Int32.toNatClampNeg (J 2))))) + (J 4))) (J 0)) q28 (Int32.toNatClampNeg (((J 10) + ((J 6) * (hI h5 q6 (Int32.toNatClampNeg (J 2))))) + (J 5))) (J (-1))) 256 7 = some q30 ∧ (hs (wI (wI (wI h20 q24 (Int32.toNatClampNeg (((J 10) + ((J 6) * (hI h5 q6 (Int32.toNatClampNeg (J 2))))) + (J 3))) (J 0)) q26 (Int32.toNatClampNeg (((J 10) + ((J 6) * (hI h5 q6 (Int32.toNatClampNeg (J 2))))) + (J 4))) (J 0)) q28 (Int32.toNatClampNeg (((J 10) + ((J 6) * (hI h5 q6 (Int32.toNatClampNeg (J 2))))) + (J 5))) (J (-1))) q30).1 = 1 ∧ ix (J 2) (hs (wI (wI (wI h20 q24 (Int32.toNatClampNeg (((J 10) + ((J 6) * (hI h5 q6 (Int32.toNatClampNeg (J 2))))) + (J 3))) (J 0)) q26 (Int32.toNatClampNeg (((J 10) + ((J 6) * (hI h5 q6 (Int32.toNatClampNeg (J 2))))) + (J 4))) (J 0)) q28 (Int32.toNatClampNeg (((J 10) + ((J 6) * (hI h5 q6 (Int32.toNatClampNeg (J 2))))) + (J 5))) (J (-1))) q30).2 ∧ (hs (wI (wI (wI h20 q24 (Int32.toNatClampNeg (((J 10) + ((J 6) * (hI h5 q6 (Int32.toNatClampNeg (J 2))))) + (J 3))) (J 0)) q26 (Int32.toNatClampNeg (((J 10) + ((J 6) * (hI h5 q6 (Int32.toNatClampNeg (J 2))))) + (J 4))) (J 0)) q28 (Int32.toNatClampNeg (((J 10) + ((J 6) * (hI h5 q6 (Int32.toNatClampNeg (J 2))))) + (J 5))) (J (-1))) q30).1 = 1 ∧ ix (J 2) (hs (wI (wI (wI h20 q24 (Int32.toNatClampNeg (((J 10) + ((J 6) * (hI h5 q6 (Int32.toNatClampNeg (J 2))))) + (J 3))) (J 0)) q26 (Int32.toNatClampNeg (((J 10) + ((J 6) * (hI h5 q6 (Int32.toNatClampNeg (J 2))))) + (J 4))) (J 0)) q28 (Int32.toNatClampNeg (((J 10) + ((J 6) * (hI h5 q6 (Int32.toNatClampNeg (J 2))))) + (J 5))) (J (-1))) q30).2 ∧ (J 1 = J 0 ∨ J 1 = J 1) ∧ Q (some (.int (J 1))) (wI (wI (wI (wI h20 q24 (Int32.toNatClampNeg (((J 10) + ((J 6) * (hI h5 q6 (Int32.toNatClampNeg (J 2))))) + (J 3))) (J 0)) q26 (Int32.toNatClampNeg (((J 10) + ((J 6) * (hI h5 q6 (Int32.toNatClampNeg (J 2))))) + (J 4))) (J 0)) q28 (Int32.toNatClampNeg (((J 10) + ((J 6) * (hI h5 q6 (Int32.toNatClampNeg (J 2))))) + (J 5))) (J (-1))) q30 (Int32.toNatClampNeg (J 2)) ((hI (wI (wI (wI h20 q24 (Int32.toNatClampNeg (((J 10) + ((J 6) * (hI h5 q6 (Int32.toNatClampNeg (J 2))))) + (J 3))) (J 0)) q26 (Int32.toNatClampNeg (((J 10) + ((J 6) * (hI h5 q6 (Int32.toNatClampNeg (J 2))))) + (J 4))) (J 0)) q28 (Int32.toNatClampNeg (((J 10) + ((J 6) * (hI h5 q6 (Int32.toNatClampNeg (J 2))))) + (J 5))) (J (-1))) q30 (Int32.toNatClampNeg (J 2))) + (J 1)))) ∧ (¬ (¬ r21 = (J 0)) → (J 0 = J 0 ∨ J 0 = J 1) ∧ Q (some (.int (J 0))) h20))))))))))) ∧ (¬ (¬ (hI h q1 (Int32.toNatClampNeg (J 2))) = (J 4)) → hs h 256 = (0, 11) ∧ Ex X PG d 179 0 [some (.ref 256), some (.int (J 4)), some (.int (J x1))] [] h (fun v35 h36 => ∃ r37, v35 = some (.int r37) ∧ (r37 = J 0 ∨ r37 = J 1) ∧ Q (some (.int r37)) h36)))
  try simp only [aI_wAL, fI_wAL, aL_wA, aL_wF, aI_wA_ne, aI_wF_ne, fI_wA_ne, fI_wF_ne, fI_wF_nk, aL_wAL_ne, J_sameA, J_sameF, aL_same, Nat.add_left_cancel_iff, Nat.add_eq_left, Nat.left_eq_add, not_false_eq_true, Nat.reduceEqDiff, Nat.reduceAdd, J_add, J_sub, J_mul, J_neg, J_and, J_or, J_xor, J_shl, J_shr, J_div, J_i2b, J_i2l, J_l2i, J_lcm, J_max, J_min, J_nab, J_nao, rdA, rdF, rdL, wA_fold, wF_fold, wL_fold, wC_fold]
  refine ⟨(ls256 C_h), _, (lr256_7 C_h), ?_⟩
  refine ⟨congrArg Prod.fst (ls262 C_h), ixs (ls262 C_h) (by decide) (by decide), ?_⟩
  refine ⟨fun c2 => ?_, fun c2 => ?_⟩
  · have t3 : ¬ aI h 262 2 = 4 := (fun e => c2 ((Jeq (rg_toInt _) (by decide)).mpr e))
    replace w := w.1 t3
    refine ⟨(ls256 C_h), ?_⟩
    refine Ex.mono w (Nat.le_refl _) ?_
    rintro v4 h5 ⟨rfl, s34, w⟩
    refine ⟨rfl, ?_⟩
    have C_h5 := Lay_SH s34 C_h
    try simp only [aI_wAL, fI_wAL, aL_wA, aL_wF, aI_wA_ne, aI_wF_ne, fI_wA_ne, fI_wF_ne, fI_wF_nk, aL_wAL_ne, J_sameA, J_sameF, aL_same, Nat.add_left_cancel_iff, Nat.add_eq_left, Nat.left_eq_add, not_false_eq_true, Nat.reduceEqDiff, Nat.reduceAdd, J_add, J_sub, J_mul, J_neg, J_and, J_or, J_xor, J_shl, J_shr, J_div, J_i2b, J_i2l, J_l2i, J_lcm, J_max, J_min, J_nab, J_nao, rdA, rdF, rdL, wA_fold, wF_fold, wL_fold, wC_fold]
    refine ⟨(ls256 C_h5), _, (lr256_7 C_h5), ?_⟩
    refine ⟨congrArg Prod.fst (ls262 C_h5), ixs (ls262 C_h5) (by decide) (by decide), ?_⟩
    refine ⟨(ls256 C_h5), _, (lr256_7 C_h5), ?_⟩
    refine ⟨congrArg Prod.fst (ls262 C_h5), ixs (ls262 C_h5) (by decide) (by decide), ?_⟩
    refine ⟨(ls256 C_h5), ?_⟩
    refine Ex.mono w (Nat.le_refl _) ?_
    rintro v8 h9 ⟨r10, gr10, rfl, s33, w⟩
    refine ⟨_, rfl, ?_⟩
    have C_h9 := Lay_SH s33 C_h5
    try simp only [aI_wAL, fI_wAL, aL_wA, aL_wF, aI_wA_ne, aI_wF_ne, fI_wA_ne, fI_wF_ne, fI_wF_nk, aL_wAL_ne, J_sameA, J_sameF, aL_same, Nat.add_left_cancel_iff, Nat.add_eq_left, Nat.left_eq_add, not_false_eq_true, Nat.reduceEqDiff, Nat.reduceAdd, J_add, J_sub, J_mul, J_neg, J_and, J_or, J_xor, J_shl, J_shr, J_div, J_i2b, J_i2l, J_l2i, J_lcm, J_max, J_min, J_nab, J_nao, rdA, rdF, rdL, wA_fold, wF_fold, wL_fold, wC_fold]
    refine ⟨fun c11 => ?_, fun c11 => ?_⟩
    · have t12 : r10 = 0 := ((Jeq gr10 (by decide)).mp c11)
      replace w := w.1 t12
      exact ⟨(Or.inl (by trivial)), w⟩
    · have t12 : ¬ r10 = 0 := (fun e => c11 ((Jeq gr10 (by decide)).mpr e))
      replace w := w.2 t12
      refine ⟨(ls256 C_h9), _, (lr256_7 C_h9), ?_⟩
      refine ⟨congrArg Prod.fst (ls262 C_h9), ixs (ls262 C_h9) (by decide) (by decide), ?_⟩
      refine ⟨(ls256 C_h9), ?_⟩
      refine Ex.mono w (Nat.le_refl _) ?_
      rintro v14 h15 ⟨r16, gr16, rfl, s32, w⟩
      refine ⟨_, rfl, ?_⟩
      have C_h15 := Lay_SH s32 C_h9
      try simp only [aI_wAL, fI_wAL, aL_wA, aL_wF, aI_wA_ne, aI_wF_ne, fI_wA_ne, fI_wF_ne, fI_wF_nk, aL_wAL_ne, J_sameA, J_sameF, aL_same, Nat.add_left_cancel_iff, Nat.add_eq_left, Nat.left_eq_add, not_false_eq_true, Nat.reduceEqDiff, Nat.reduceAdd, J_add, J_sub, J_mul, J_neg, J_and, J_or, J_xor, J_shl, J_shr, J_div, J_i2b, J_i2l, J_l2i, J_lcm, J_max, J_min, J_nab, J_nao, rdA, rdF, rdL, wA_fold, wF_fold, wL_fold, wC_fold]
      refine ⟨fun c17 => ?_, fun c17 => ?_⟩
      · have t18 : r16 = 0 := ((Jeq gr16 (by decide)).mp c17)
        replace w := w.1 t18
        exact ⟨(Or.inl (by trivial)), w⟩
      · have t18 : ¬ r16 = 0 := (fun e => c17 ((Jeq gr16 (by decide)).mpr e))
        replace w := w.2 t18
        refine ⟨(ls256 C_h15), ?_⟩
        refine Ex.mono w (Nat.le_refl _) ?_
        rintro v19 h20 ⟨r21, gr21, rfl, s31, w⟩
        refine ⟨_, rfl, ?_⟩
        have C_h20 := Lay_SH s31 C_h15
        try simp only [aI_wAL, fI_wAL, aL_wA, aL_wF, aI_wA_ne, aI_wF_ne, fI_wA_ne, fI_wF_ne, fI_wF_nk, aL_wAL_ne, J_sameA, J_sameF, aL_same, Nat.add_left_cancel_iff, Nat.add_eq_left, Nat.left_eq_add, not_false_eq_true, Nat.reduceEqDiff, Nat.reduceAdd, J_add, J_sub, J_mul, J_neg, J_and, J_or, J_xor, J_shl, J_shr, J_div, J_i2b, J_i2l, J_l2i, J_lcm, J_max, J_min, J_nab, J_nao, rdA, rdF, rdL, wA_fold, wF_fold, wL_fold, wC_fold]
        refine ⟨fun c22 => ?_, fun c22 => ?_⟩
        · have t23 : ¬ r21 = 0 := (fun e => c22 ((Jeq gr21 (by decide)).mpr e))
          replace w := w.1 t23
          refine ⟨(ls256 C_h20), _, (lr256_7 C_h20), ?_⟩
          obtain ⟨k25, w⟩ := w
          refine ⟨congrArg Prod.fst (ls262 C_h20), ixs (ls262 C_h20) k25 (by decide), ?_⟩
          refine ⟨(ls256 C_h20), _, (lr256_7 C_h20), ?_⟩
          obtain ⟨k27, w⟩ := w
          refine ⟨congrArg Prod.fst (ls262 C_h20), ixs (ls262 C_h20) k27 (by decide), ?_⟩
          refine ⟨(ls256 C_h20), _, (lr256_7 C_h20), ?_⟩
          obtain ⟨k29, w⟩ := w
          refine ⟨congrArg Prod.fst (ls262 C_h20), ixs (ls262 C_h20) k29 (by decide), ?_⟩
          refine ⟨(ls256 C_h20), _, (lr256_7 C_h20), ?_⟩
          refine ⟨congrArg Prod.fst (ls262 C_h20), ixs (ls262 C_h20) (by decide) (by decide), ?_⟩
          refine ⟨congrArg Prod.fst (ls262 C_h20), ixs (ls262 C_h20) (by decide) (by decide), ?_⟩
          exact ⟨(Or.inr (by trivial)), w⟩
        · have t23 : r21 = 0 := ((Jeq gr21 (by decide)).mp (Classical.byContradiction c22))
          replace w := w.2 t23
          exact ⟨(Or.inl (by trivial)), w⟩
  · have t3 : aI h 262 2 = 4 := ((Jeq (rg_toInt _) (by decide)).mp (Classical.byContradiction c2))
    replace w := w.2 t3
    refine ⟨(ls256 C_h), ?_⟩
    refine Ex.mono w (Nat.le_refl _) ?_
    rintro v35 h36 ⟨r37, gr37, rfl, s39, w⟩
    refine ⟨_, rfl, ?_⟩
    have C_h36 := Lay_SH s39 C_h
    try simp only [aI_wAL, fI_wAL, aL_wA, aL_wF, aI_wA_ne, aI_wF_ne, fI_wA_ne, fI_wF_ne, fI_wF_nk, aL_wAL_ne, J_sameA, J_sameF, aL_same, Nat.add_left_cancel_iff, Nat.add_eq_left, Nat.left_eq_add, not_false_eq_true, Nat.reduceEqDiff, Nat.reduceAdd, J_add, J_sub, J_mul, J_neg, J_and, J_or, J_xor, J_shl, J_shr, J_div, J_i2b, J_i2l, J_l2i, J_lcm, J_max, J_min, J_nab, J_nao, rdA, rdF, rdL, wA_fold, wF_fold, wL_fold, wC_fold]
    obtain ⟨k38, w⟩ := w
    exact ⟨(k38.imp (congrArg J) (congrArg J)), w⟩
theorem m190 {X : Cst} {d : Nat} {L j : Int} {tp R : Int → Int} {h : AH} {Q : Post} (C : Lay h) (hd : 4 ≤ d) (K : RkC h tp L j 0) (e8 : fI h 256 8 = j) (l : j < L ∧ leP (tp j)) (eR : aI h 262 = R) (R0 : 0 ≤ R 0 ∧ R 0 ≤ 8) (R2 : 0 ≤ R 2 ∧ R 2 ≤ 4) (k : RQ h tp L (pI (R 2 = 4) (fltR (1 + 8 * j + 4)) (cPer tp L (nx tp L j) R)) Q) : Ex X PG d 190 0 [some (.ref 256), some (.int (J j)), none] [] h Q := by
  obtain ⟨d, rfl⟩ : ∃ e, d = e + 1 := ⟨d - 1, by omega⟩
  have kj := K.j
  refine r190_0 C ?_
  rw [eR]
  refine ⟨fun c => ?_, fun c => ?_⟩
  · rw [pI_neg c] at k
    refine m182w C (by omega) K e8 l (fun h2 F2 K2 => ⟨rfl, F2.1, ?_⟩)
    have F2r : Fr TNr h h2 := F2.mo (fun _ _ => TNx_r)
    have k2j := K2.j
    have eR2 := (F2.a 262 (fun k => by unfold TNx; omega)).trans eR
    rw [eR2]
    refine m183 (R := R) (F2.C C) (by omega) K2 eR2 (by omega) (by omega) (by omega) (fun e h3 F3 K3 eR3 => ⟨1, by omega, rfl, F3.1, fun z => absurd z (by decide), fun _ => ?_⟩) (fun e h3 F3 e9 => ⟨0, by omega, rfl, F3.1, fun _ => ?_, fun z => absurd rfl z⟩)
    · unfold cPer at k; rw [nmc_pos e] at k
      rw [eR3, uu_ne (by omega) (by omega) (by omega)]
      refine m183 (F3.C (F2.C C)) (by omega) K3 eR3 (by omega) (by omega) (by omega) (fun e' h4 F4 K4 eR4 => ⟨1, by omega, rfl, F4.1, fun z => absurd z (by decide), fun _ => ?_⟩) (fun e' h4 F4 e9 => ⟨0, by omega, rfl, F4.1, fun _ => ?_, fun z => absurd rfl z⟩)
      · rw [nmc_pos e'] at k
        refine m183 (F4.C (F3.C (F2.C C))) (by omega) K4 eR4 (by omega) (by omega) (by omega) (fun e'' h5 F5 K5 eR5 => ⟨1, by omega, rfl, F5.1, fun _ => ⟨by omega, by omega, by omega, ?_⟩, fun z => absurd z (by decide)⟩) (fun e'' h5 F5 e9 => ⟨0, by omega, rfl, F5.1, fun z => absurd rfl z, fun _ => ?_⟩)
        · rw [nmc_pos e''] at k
          have Fx := ((F2r.tr F3).tr F4).tr F5
          have Fw := wA262 (e := 2) (v := aI (wA (wA (wA h5 262 (10 + 6 * R 2 + 3) 0) 262 (10 + 6 * R 2 + 4) 0) 262 (10 + 6 * R 2 + 5) (-1)) 262 2 + 1) (wA262 (e := 10 + 6 * R 2 + 5) (v := -1) (wA262 (e := 10 + 6 * R 2 + 4) (v := 0) (wA262 (e := 10 + 6 * R 2 + 3) (v := 0) (Fr.rf (h := h5)))))
          refine k.1 rfl _ (Fx.tr (Fw.mo (fun _ _ => T262_r))) (K5.f262 Fw) ?_
          have e2 : aI (wA (wA (wA h5 262 (10 + 6 * R 2 + 3) 0) 262 (10 + 6 * R 2 + 4) 0) 262 (10 + 6 * R 2 + 5) (-1)) 262 = uu_ (uu_ (uu_ (uu_ (uu_ (uu_ R (10 + 6 * R 2) (tkV tp L (nx tp L j))) (10 + 6 * R 2 + 1) (tkV tp L (nx tp L (nx tp L j)))) (10 + 6 * R 2 + 2) (tkV tp L (nx tp L (nx tp L (nx tp L j))))) (10 + 6 * R 2 + 3) 0) (10 + 6 * R 2 + 4) 0) (10 + 6 * R 2 + 5) (-1) := by
            rw [aI_wA (by omega), aI_wA (by omega), aI_wA (by omega), eR5]
          have e3 : uu_ (uu_ (uu_ (uu_ (uu_ (uu_ R (10 + 6 * R 2) (tkV tp L (nx tp L j))) (10 + 6 * R 2 + 1) (tkV tp L (nx tp L (nx tp L j)))) (10 + 6 * R 2 + 2) (tkV tp L (nx tp L (nx tp L (nx tp L j))))) (10 + 6 * R 2 + 3) 0) (10 + 6 * R 2 + 4) 0) (10 + 6 * R 2 + 5) (-1) 2 = R 2 := by
            rw [uu_ne (by omega) (by omega) (by omega), uu_ne (by omega) (by omega) (by omega), uu_ne (by omega) (by omega) (by omega), uu_ne (by omega) (by omega) (by omega), uu_ne (by omega) (by omega) (by omega), uu_ne (by omega) (by omega) (by omega)]
          rw [e2, e3, aI_wA (by omega), e2]
          rfl
        · rw [nmc_neg e''] at k; exact k.2 e'' h5 (((F2r.tr F3).tr F4).tr F5) e9
      · rw [nmc_neg e'] at k; exact k.2 e' h4 ((F2r.tr F3).tr F4) e9
    · unfold cPer at k; rw [nmc_neg e] at k; exact k.2 e h3 (F2r.tr F3) e9
  · rw [pI_pos c] at k
    exact m179 C (by omega) K.2.2.2.2 ⟨0, by omega, rfl, SH.rf.wF, Or.inl rfl, k.fl Fr.rf (by omega) (by omega) rfl⟩
