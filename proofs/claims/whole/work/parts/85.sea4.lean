/-! THE CLASS: a search begins; it may grow. -/
/-- h's contents on the shapes of h' -/
def ov (h h' : AH) : AH := (h'.1, hI h, hL h, hR h')
theorem hs_aN_ne {h : AH} {t : Nat × Nat} {z c : Nat} (n : ¬ c = hn h) : hs (aN h t z) c = hs h c := va_up_ne _ _ n
theorem hs_aN_eq {h : AH} {t : Nat × Nat} {z : Nat} : hs (aN h t z) (hn h) = t := va_up_self _ _ _
theorem hR_aN_ne {h : AH} {t : Nat × Nat} {z c : Nat} (n : ¬ c = hn h) : hR (aN h t z) c = hR h c := va_up_ne _ _ n
theorem hI_aN_ne {h : AH} {t : Nat × Nat} {z c : Nat} (n : ¬ c = hn h) : hI (aN h t z) c = hI h c := va_up_ne _ _ n
theorem hI_aN_eq {h : AH} {t : Nat × Nat} {z : Nat} : hI (aN h t z) (hn h) = fun _ => 0 := va_up_self _ _ _
theorem hL_aN_ne {h : AH} {t : Nat × Nat} {z c : Nat} (n : ¬ c = hn h) : hL (aN h t z) c = hL h c := va_up_ne _ _ n
theorem aI_aN_ne {h : AH} {t : Nat × Nat} {z c : Nat} (n : ¬ c = hn h) : aI (aN h t z) c = aI h c := by funext e; unfold aI; rw [hI_aN_ne n]
theorem aI_aN_eq {h : AH} {t : Nat × Nat} {z : Nat} (e : Int) : aI (aN h t z) (hn h) e = 0 := by unfold aI; rw [hI_aN_eq]; rfl
theorem fI_aN_ne {h : AH} {t : Nat × Nat} {z c : Nat} (n : ¬ c = hn h) : fI (aN h t z) c = fI h c := by funext e; unfold fI; rw [hI_aN_ne n]
theorem aI_wR (h : AH) (a j : Nat) (x : Option Nat) : aI (wR h a j x) = aI h := rfl
theorem fI_wR (h : AH) (a j : Nat) (x : Option Nat) : fI (wR h a j x) = fI h := rfl
theorem hs_wR (h : AH) (a j : Nat) (x : Option Nat) : hs (wR h a j x) = hs h := rfl
theorem hn_wR (h : AH) (a j : Nat) (x : Option Nat) : hn (wR h a j x) = hn h := rfl
theorem hn_aN (h : AH) (t : Nat × Nat) (z : Nat) : hn (aN h t z) = hn h + 1 := rfl
theorem hz_wR (h : AH) (a j : Nat) (x : Option Nat) : hz (wR h a j x) = hz h := rfl
theorem hz_aN (h : AH) (t : Nat × Nat) (z : Nat) : hz (aN h t z) = hz h + z := rfl
theorem v115_0 {X : Cst} {d : Nat} {a : Nat} {a1 : Nat} {x2 : Int32} {x3 : Int32} {x4 : Int32} {h : AH} {Q : Post}
  (w : (hs h a = (0, 3) ∨ hs h a = (0, 7)) ∧ (hs (wR h a 0 (some a1)) a = (0, 3) ∨ hs (wR h a 0 (some a1)) a = (0, 7)) ∧ (hs (wI (wR h a 0 (some a1)) a 1 x2) a = (0, 3) ∨ hs (wI (wR h a 0 (some a1)) a 1 x2) a = (0, 7)) ∧ (hs (wI (wI (wR h a 0 (some a1)) a 1 x2) a 2 x3) a = (0, 3) ∨ hs (wI (wI (wR h a 0 (some a1)) a 1 x2) a 2 x3) a = (0, 7)) ∧ Q none (wI (wI (wI (wR h a 0 (some a1)) a 1 x2) a 2 x3) a 3 x4)) :
    Ex X PG (d + 1) 115 0 [some (.ref a), some (.ref a1), some (.int x2), some (.int x3), some (.int x4)] [] h Q := wpx_ok (cut := []) 13 d 115 0 _ _ _ _ w
-- OutwardDoors$Passings.states()I at 0
set_option maxRecDepth 20000 in
set_option maxHeartbeats 4000000 in
theorem r116_0 {X : Cst} {d : Nat}  {h : AH} {Q : Post} (C_h : Lay h)
  (w : Q (some (.int (J (shl 1 (iand (3 * (fI h 247 2)) 31))))) h) :
    Ex X PG (d + 1) 116 0 [some (.ref 247)] [] h Q := by
  refine wpx_ok (cut := []) 7 d 116 0 _ _ _ _ ?_
  show (hs h 247 = (0, 3) ∨ hs h 247 = (0, 7)) ∧ Q (some (.int ((J 1) <<< (((J 3) * (hF h 247 2)) &&& J 31)))) h
  try simp only [aI_wAL, fI_wAL, aL_wA, aL_wF, aI_wA_ne, aI_wF_ne, fI_wA_ne, fI_wF_ne, fI_wF_nk, aL_wAL_ne, J_sameA, J_sameF, aL_same, Nat.add_left_cancel_iff, Nat.add_eq_left, Nat.left_eq_add, not_false_eq_true, Nat.reduceEqDiff, Nat.reduceAdd, J_add, J_sub, J_mul, J_neg, J_and, J_or, J_xor, J_shl, J_shr, J_div, J_i2b, J_i2l, J_l2i, J_lcm, J_max, J_min, J_nab, J_nao, rdA, rdF, rdL, wA_fold, wF_fold, wL_fold, wC_fold]
  refine ⟨(Or.inr ((ls247 C_h))), ?_⟩
  exact w
theorem pow_8 (m : Nat) : ((2 ^ (3 * m) : Nat) : Int) = 8 ^ m := by
  rw [Nat.pow_mul]
  simp
theorem m116s {X : Cst} {d m : Nat} {h : AH} {Q : Post} (C : Lay h) (hd : 1 ≤ d) (hm : m ≤ 5) (e : fI h 247 2 = m) (k : Q (some (.int (J (8 ^ m)))) h) : Ex X PG d 116 0 [some (.ref 247)] [] h Q := by
  obtain ⟨d, rfl⟩ : ∃ e, d = e + 1 := ⟨d - 1, by omega⟩
  refine r116_0 C ?_
  rw [e, shl_1 (by omega), show (3 * (m : Int)).toNat = 3 * m by omega, pow_8]
  exact k
/-- cells may be new; of the old ones but the places T, references U changed -/
def Gx (T U : Nat → Nat → Prop) (h h' : AH) : Prop := hn h ≤ hn h' ∧ (∀ c, c < hn h → hs h' c = hs h c) ∧ (∀ c k, c < hn h → ¬ U c k → hR h' c k = hR h c k) ∧ (∀ c k, c < hn h → ¬ T c k → hI h' c k = hI h c k ∧ hL h' c k = hL h c k)
theorem Gx.rf {T U : Nat → Nat → Prop} {h : AH} : Gx T U h h := ⟨Nat.le_refl _, fun _ _ => rfl, fun _ _ _ _ => rfl, fun _ _ _ _ => ⟨rfl, rfl⟩⟩
theorem Gx.of {T U : Nat → Nat → Prop} {h h' : AH} (F : Fr T h h') : Gx T U h h' := ⟨Nat.le_of_eq F.1.hn.symm, fun c _ => by rw [F.1.hs], fun c k _ _ => by rw [F.1.2], fun c k _ t => F.2 c k t⟩
theorem Gx.tr {T U : Nat → Nat → Prop} {h h' h'' : AH} (a : Gx T U h h') (b : Gx T U h' h'') : Gx T U h h'' :=
  ⟨Nat.le_trans a.1 b.1, fun c hc => by rw [b.2.1 c (by have := a.1; omega), a.2.1 c hc], fun c k hc u => by rw [b.2.2.1 c k (by have := a.1; omega) u, a.2.2.1 c k hc u], fun c k hc t => by
    have x := b.2.2.2 c k (by have := a.1; omega) t
    have y := a.2.2.2 c k hc t
    exact ⟨by rw [x.1, y.1], by rw [x.2, y.2]⟩⟩
theorem Gx.mo {T U T' U' : Nat → Nat → Prop} {h h' : AH} (a : Gx T U h h') (t : ∀ c k, T c k → T' c k) (u : ∀ c k, U c k → U' c k) : Gx T' U' h h' := ⟨a.1, a.2.1, fun c k hc z => a.2.2.1 c k hc (fun y => z (u c k y)), fun c k hc z => a.2.2.2 c k hc (fun y => z (t c k y))⟩
theorem Gx.wR {T U : Nat → Nat → Prop} {h : AH} {a j : Nat} {x : Option Nat} (u : U a j) : Gx T U h (wR h a j x) :=
  ⟨Nat.le_refl _, fun _ _ => rfl, fun c k _ n => hR_wR_ne (fun z => n (by rw [z.1, z.2]; exact u)), fun _ _ _ _ => ⟨rfl, rfl⟩⟩
theorem Gx.aN {T U : Nat → Nat → Prop} {h : AH} {t : Nat × Nat} {z : Nat} : Gx T U h (aN h t z) :=
  ⟨Nat.le_succ _, fun c hc => hs_aN_ne (by omega), fun c k hc _ => by rw [hR_aN_ne (by omega)], fun c k hc _ => ⟨by rw [hI_aN_ne (by omega)], by rw [hL_aN_ne (by omega)]⟩⟩
theorem Gx.ov {T U : Nat → Nat → Prop} {h h' : AH} (a : Gx T U h h') : Fr (fun c k => T c k ∨ hn h ≤ c) (ov h h') h' := by
  refine ⟨⟨rfl, rfl⟩, fun c k n => ?_⟩
  have hc : c < hn h := by
    apply Classical.byContradiction
    intro z
    exact n (Or.inr (by omega))
  exact a.2.2.2 c k hc (fun z => n (Or.inl z))
theorem Gx.a {T U : Nat → Nat → Prop} {h h' : AH} (x : Gx T U h h') (c : Nat) (hc : c < hn h) (n : ∀ k, ¬ T c k) : aI h' c = aI h c := by
  funext e; unfold aI; rw [(x.2.2.2 c _ hc (n _)).1]
theorem Gx.f {T U : Nat → Nat → Prop} {h h' : AH} (x : Gx T U h h') (c k : Nat) (hc : c < hn h) (n : ¬ T c k) : fI h' c k = fI h c k := by
  unfold fI; rw [(x.2.2.2 c k hc n).1]
set_option maxRecDepth 20000 in
theorem LSt_len : LSt.length = 281 := by decide
theorem lookup_lt {B x q : Nat} : ∀ l : List (Nat × Nat), (l.all fun p => decide (p.1 < B)) = true → l.lookup x = some q → x < B := by
  intro l
  induction l with
  | nil => intro _ h; exact absurd h (by simp [List.lookup])
  | cons a l ih =>
    intro h1 h2
    rw [List.all_cons, Bool.and_eq_true] at h1
    by_cases c : x = a.1
    · rw [c]; exact of_decide_eq_true h1.1
    · rw [List.lookup_cons] at h2
      have : (x == a.1) = false := by simp [c]
      rw [this] at h2
      exact ih h1.2 h2
set_option maxRecDepth 20000 in
theorem LRt_lt : (LRt.all fun p => decide (p.1 < 17984)) = true := by decide
theorem Gx.C {T U : Nat → Nat → Prop} {h h' : AH} (x : Gx T U h h') (C : Lay h) (h2 : 281 ≤ hn h) (n : ∀ c k, U c k → LRt.lookup (c * 64 + k) = none) : Lay h' := by
  refine ⟨fun k t e => ?_, fun a k q l e => ?_⟩
  · have : k < 281 := by
      have := (List.getElem?_eq_some_iff.mp e).1
      rw [LSt_len] at this
      exact this
    rw [x.2.1 k (by omega)]; exact C.1 k t e
  · have lt := lookup_lt LRt LRt_lt e
    rw [x.2.2.1 a k (by omega) (fun z => by rw [n a k z] at e; exact absurd e (by simp))]; exact C.2 a k q l e
/-- a search at rest: what is marked stands in its queue -/
def SeaR (h : AH) (pl0 mk qu ln : Nat) : Prop := SeaAt h pl0 mk qu ln ∧ ((mk = 248 ∨ 281 ≤ mk) ∧ (qu = 249 ∨ 281 ≤ qu) ∧ ¬ mk = qu ∧ mk < hn h ∧ qu < hn h) ∧ (∃ j : Nat, j ≤ 5 ∧ ln = 8 ^ j) ∧ (0 ≤ fI h 247 6 ∧ fI h 247 6 ≤ ln) ∧ (∀ k, 0 ≤ k → k < fI h 247 6 → 0 ≤ aI h qu k ∧ aI h qu k < ln) ∧ (∀ x : Int, 0 ≤ x → x < ln → ¬ aI h mk x = 0 → ∃ k, (0 ≤ k ∧ k < fI h 247 6) ∧ aI h qu k = x)
def TBg (mk c k : Nat) : Prop := c = mk ∨ (c = 247 ∧ (k = 1 ∨ k = 2 ∨ k = 3 ∨ k = 6 ∨ k = 7))
def UBg (c k : Nat) : Prop := c = 247 ∧ (k = 0 ∨ k = 4 ∨ k = 5)
set_option maxRecDepth 20000 in
theorem UBg_n (c k : Nat) (u : UBg c k) : LRt.lookup (c * 64 + k) = none := by
  obtain ⟨rfl, rfl | rfl | rfl⟩ := u <;> rfl
/-- what a search begins with -/
def SeaB (h : AH) (pl mk qu ln m : Nat) (t : Prop) (w : Int) : Prop := SeaAt h pl mk qu ln ∧ apS pl mk qu ∧ (mk < hn h ∧ qu < hn h) ∧ (∃ j : Nat, j ≤ 5 ∧ ln = 8 ^ j) ∧ (8 : Int) ^ m ≤ ln ∧ (fI h 247 1 = bI t ∧ fI h 247 2 = m ∧ fI h 247 3 = w ∧ fI h 247 6 = 0 ∧ fI h 247 7 = -1) ∧ ∀ x : Int, 0 ≤ x → x < ln → aI h mk x = 0
theorem p8_i {j m : Nat} (hj : j ≤ 5) (hm : m ≤ 5) (h : (8 : Int) ^ j < 8 ^ m) : 2 * (8 : Int) ^ j ≤ 8 ^ m := by
  have e : j = 0 ∨ j = 1 ∨ j = 2 ∨ j = 3 ∨ j = 4 ∨ j = 5 := by omega
  have f : m = 0 ∨ m = 1 ∨ m = 2 ∨ m = 3 ∨ m = 4 ∨ m = 5 := by omega
  rcases e with rfl | rfl | rfl | rfl | rfl | rfl <;> rcases f with rfl | rfl | rfl | rfl | rfl | rfl <;> first | exact absurd h (by decide) | decide
theorem hI_f (h : AH) (c k : Nat) : hI h c k = J (fI h c k) := (J_toInt _).symm
theorem hI_a (h : AH) (c : Nat) (e : Int) : hI h c (Int32.toNatClampNeg (J e)) = J (aI h c e) := (J_toInt _).symm
theorem v114_0 {X : Cst} {d : Nat} {a : Nat} {a1 : Nat} {x2 : Int32} {x3 : Int32} {x4 : Int32} {h : AH} {Q : Post}
  (w : hs h a = (0, 7) ∧ Ex X PG d 115 0 [some (.ref a), some (.ref a1), some (.int x2), some (.int x3), some (.int x4)] [] h (fun v1 h2 => v1 = none ∧
      Ex X PG (d + 1) 114 12 [some (.ref a), some (.ref a1), some (.int x2), some (.int x3), some (.int x4), some (.int 0)] [] h2 Q)) :
    Ex X PG (d + 1) 114 0 [some (.ref a), some (.ref a1), some (.int x2), some (.int x3), some (.int x4), none] [] h Q := wpx_ok (cut := [12]) 8 d 114 0 _ _ _ _ w
theorem v114_12 {X : Cst} {d : Nat} {a : Nat} {a1 : Nat} {x2 : Int32} {x3 : Int32} {x4 : Int32} {x5 : Int32} {h : AH} {Q : Post}
  (w : hs h a = (0, 7) ∧ ((hI h a 6 ≤ x5 →
      hs h a = (0, 7) ∧ hs (wI h a 6 0) a = (0, 7) ∧ hs (wI (wI h a 6 0) a 7 (-1)) a = (0, 7) ∧ ∃ q1, hR (wI (wI h a 6 0) a 7 (-1)) a 4 = some q1 ∧ 1 ≤ (hs (wI (wI h a 6 0) a 7 (-1)) q1).1 ∧ hs (wI (wI h a 6 0) a 7 (-1)) a = (0, 7) ∧ Ex X PG d 116 0 [some (.ref a)] [] (wI (wI h a 6 0) a 7 (-1)) (fun v2 h3 => ∃ r4, v2 = some (.int r4) ∧
        ((r4 ≤ nI (hs (wI (wI h a 6 0) a 7 (-1)) q1).2 →
          Q none h3) ∧
        (¬ (r4 ≤ nI (hs (wI (wI h a 6 0) a 7 (-1)) q1).2) →
          hs h3 a = (0, 7) ∧ Ex X PG d 116 0 [some (.ref a)] [] h3 (fun v5 h6 => ∃ r7, v5 = some (.int r7) ∧
            ¬ r7 < 0 ∧ Int32.toNatClampNeg r7 ≤ 1000000 ∧ hs (aN h6 (1, Int32.toNatClampNeg r7) (Int32.toNatClampNeg r7)) a = (0, 7) ∧ hs (wR (aN h6 (1, Int32.toNatClampNeg r7) (Int32.toNatClampNeg r7)) a 4 (some (hn h6))) a = (0, 7) ∧ Ex X PG d 116 0 [some (.ref a)] [] (wR (aN h6 (1, Int32.toNatClampNeg r7) (Int32.toNatClampNeg r7)) a 4 (some (hn h6))) (fun v8 h9 => ∃ r10, v8 = some (.int r10) ∧
              ¬ r10 < 0 ∧ Int32.toNatClampNeg r10 ≤ 1000000 ∧ hs (aN h9 (1, Int32.toNatClampNeg r10) (Int32.toNatClampNeg r10)) a = (0, 7) ∧ Q none (wR (aN h9 (1, Int32.toNatClampNeg r10) (Int32.toNatClampNeg r10)) a 5 (some (hn h9))))))))) ∧
    (¬ (hI h a 6 ≤ x5) →
      hs h a = (0, 7) ∧ ∃ q11, hR h a 4 = some q11 ∧ hs h a = (0, 7) ∧ ∃ q12, hR h a 5 = some q12 ∧ (hs h q12).1 = 1 ∧ ix x5 (hs h q12).2 ∧ (hs h q11).1 = 1 ∧ ix (hI h q12 (Int32.toNatClampNeg x5)) (hs h q11).2 ∧ Ex X PG (d + 1) 114 12 [some (.ref a), some (.ref a1), some (.int x2), some (.int x3), some (.int x4), some (.int (x5 + 1))] [] (wI h q11 (Int32.toNatClampNeg (hI h q12 (Int32.toNatClampNeg x5))) 0) Q))) :
    Ex X PG (d + 1) 114 12 [some (.ref a), some (.ref a1), some (.int x2), some (.int x3), some (.int x4), some (.int x5)] [] h Q := wpx_ok (cut := [12]) 27 d 114 12 _ _ _ _ w
theorem m114 {X : Cst} {d pl0 pl mk qu ln m : Nat} {w : Int} {t : Prop} {h : AH} {Q : Post} (C : Lay h) (h281 : 281 ≤ hn h) (SR : SeaR h pl0 mk qu ln) (ap : apS pl mk qu) (hpl : pl + 10 < hn h) (hd : 3 ≤ d) (hm : m ≤ 5) (gw : -2147483648 ≤ w ∧ w < 2147483648)
    (k : ∀ h' mk' qu' ln', Gx (TBg mk) UBg h h' → SeaB h' pl mk' qu' ln' m t w → ((mk' = mk ∧ qu' = qu) ∨ (hn h ≤ mk' ∧ hn h ≤ qu')) → (hn h' ≤ hn h + 2 ∧ hz h' + 4 * ln ≤ hz h + 4 * ln') → Q none h') : Ex X PG d 114 0 [some (.ref 247), some (.ref pl), some (.int (J (bI t))), some (.int (J (m : Int))), some (.int (J w)), none] [] h Q := by
  obtain ⟨d, rfl⟩ : ∃ e, d = e + 1 := ⟨d - 1, by omega⟩
  obtain ⟨B, ⟨b1, b2, b3, b4, b5⟩, ⟨jj, hjj, ej⟩, tb, qb, mb⟩ := SR
  have ln8 := B.2.2.2.2.2
  have s247 := ls247 C
  refine v114_0 ⟨s247, ?_⟩
  obtain ⟨d, rfl⟩ : ∃ e, d = e + 1 := ⟨d - 1, by omega⟩
  refine v115_0 ⟨Or.inr s247, Or.inr s247, Or.inr s247, Or.inr s247, ?_⟩
  rw [wI_wF, wI_wF, wI_wF, toInt_J (bI_rg _), toInt_J (by omega), toInt_J gw]
  generalize eh1 : wF (wF (wF (wR h 247 0 (some pl)) 247 1 (bI t)) 247 2 (m : Int)) 247 3 w = h1
  have X1 : Gx (TBg mk) UBg h h1 := by
    rw [← eh1]
    refine (Gx.wR (T := TBg mk) (U := UBg) (h := h) (x := some pl) (show UBg 247 0 by unfold UBg; omega)).tr (Gx.of ?_)
    exact (((Fr.rf (T := TBg mk)).wF (by unfold TBg; omega)).wF (by unfold TBg; omega)).wF (by unfold TBg; omega)
  have n1 : hn h1 = hn h := by rw [← eh1]; rfl
  have z1 : hz h1 = hz h := by rw [← eh1]; rfl
  have B1 : SeaAt h1 pl mk qu ln := by
    rw [← eh1]
    refine ⟨show hR (wR h 247 0 (some pl)) 247 0 = some pl from hR_wR_eq, ?_, ?_, B.2.2.2⟩
    · show hR (wR h 247 0 (some pl)) 247 4 = some mk
      rw [hR_wR_ne (by decide)]; exact B.2.1
    · show hR (wR h 247 0 (some pl)) 247 5 = some qu
      rw [hR_wR_ne (by decide)]; exact B.2.2.1
  have C1 : Lay h1 := X1.C C h281 UBg_n
  have f1 : fI h1 247 1 = bI t := by rw [← eh1, fI_wF_nk (by decide), fI_wF_nk (by decide), fI_wF_eq (bI_rg _)]
  have f2 : fI h1 247 2 = m := by rw [← eh1, fI_wF_nk (by decide), fI_wF_eq (by omega)]
  have f3 : fI h1 247 3 = w := by rw [← eh1, fI_wF_eq gw]
  have f6 : fI h1 247 6 = fI h 247 6 := by rw [← eh1, fI_wF_nk (by decide), fI_wF_nk (by decide), fI_wF_nk (by decide)]; rfl
  have am : aI h1 mk = aI h mk := by rw [← eh1, aI_wF_ne (by omega), aI_wF_ne (by omega), aI_wF_ne (by omega)]; rfl
  have aq : aI h1 qu = aI h qu := by rw [← eh1, aI_wF_ne (by omega), aI_wF_ne (by omega), aI_wF_ne (by omega)]; rfl
  clear eh1
  refine ⟨rfl, ?_⟩
  generalize eT : fI h 247 6 = T at *
  have lp : ∀ (z : Nat) (i : Int) (h' : AH), T - i = z → 0 ≤ i → Fr (fun c _ => c = mk) h1 h' → (∀ x : Int, 0 ≤ x → x < ln → ¬ aI h' mk x = 0 → ∃ k, (i ≤ k ∧ k < T) ∧ aI h qu k = x) → Ex X PG (d + 1 + 1) 114 12 [some (.ref 247), some (.ref pl), some (.int (J (bI t))), some (.int (J (m : Int))), some (.int (J w)), some (.int (J i))] [] h' Q := by
    intro z
    induction z with
    | zero =>
      intro i h' e i0 F a
      have C' := F.C C1
      have B' := SeaAt_SH F.1 B1
      have s' := ls247 C'
      have g6 : fI h' 247 6 = T := by rw [F.f 247 6 (by omega)]; exact f6
      refine v114_12 ⟨s', fun _ => ⟨s', s', s', mk, B'.2.1, congrArg Prod.fst B'.2.2.2.1 ▸ Nat.le_refl 1, s', ?_⟩, fun c => absurd (by rw [hI_f, g6]; exact (Jle (by omega) (by omega)).mpr (by omega)) c⟩
      rw [wI_wF, wI_wF]
      show Ex X PG (d + 1) 116 0 [some (.ref 247)] [] (wF (wF h' 247 6 0) 247 7 (-1)) _
      generalize eh3 : wF (wF h' 247 6 0) 247 7 (-1) = h3
      have F3 : Fr (TBg mk) h1 h3 := by
        rw [← eh3]
        exact (((F.mo fun c k z => by unfold TBg; omega : Fr (TBg mk) h1 h')).wF (by unfold TBg; omega)).wF (by unfold TBg; omega)
      have S3 : SH h' h3 := by rw [← eh3]; exact ⟨rfl, rfl⟩
      have C3 := Lay_SH S3 C'
      have B3 := SeaAt_SH S3 B'
      have n3 : hn h3 = hn h := by rw [S3.hn, F.1.hn]; exact n1
      have z3 : hz h3 = hz h := by rw [S3.hz, F.1.hz]; exact z1
      have g1 : fI h3 247 1 = bI t := by rw [← eh3, fI_wF_nk (by decide), fI_wF_nk (by decide), F.f 247 1 (by omega)]; exact f1
      have g2 : fI h3 247 2 = m := by rw [← eh3, fI_wF_nk (by decide), fI_wF_nk (by decide), F.f 247 2 (by omega)]; exact f2
      have g3 : fI h3 247 3 = w := by rw [← eh3, fI_wF_nk (by decide), fI_wF_nk (by decide), F.f 247 3 (by omega)]; exact f3
      have g6' : fI h3 247 6 = 0 := by rw [← eh3, fI_wF_nk (by decide), fI_wF_eq (by decide)]
      have g7 : fI h3 247 7 = -1 := by rw [← eh3, fI_wF_eq (by decide)]
      have mz : ∀ x : Int, 0 ≤ x → x < ln → aI h3 mk x = 0 := by
        intro x x0 x1
        rw [← eh3, aI_wF_ne (by omega), aI_wF_ne (by omega)]
        apply Classical.byContradiction
        intro z
        obtain ⟨y, hy, _⟩ := a x x0 x1 z
        omega
      have pw := pw_32k (b := 8) (by decide) (by decide) hm
      have X3 : Gx (TBg mk) UBg h h3 := X1.tr (Gx.of F3)
      clear eh3
      refine m116s C3 (by omega) hm g2 ⟨_, rfl, fun c => ?_, fun c => ?_⟩
      · change J (8 ^ m) ≤ nI (hs h' mk).2 at c
        rw [show nI (hs h' mk).2 = J (ln : Int) by rw [B'.2.2.2.1]; exact J_nI _, Jle (by omega) (by omega)] at c
        exact k h3 mk qu ln X3 ⟨B3, ap, by omega, ⟨jj, hjj, ej⟩, c, ⟨g1, g2, g3, g6', g7⟩, mz⟩ (Or.inl ⟨rfl, rfl⟩) (by omega)
      · change ¬ J (8 ^ m) ≤ nI (hs h' mk).2 at c
        rw [show nI (hs h' mk).2 = J (ln : Int) by rw [B'.2.2.2.1]; exact J_nI _, Jle (by omega) (by omega)] at c
        have e8 : Int32.toNatClampNeg (J ((8 : Int) ^ m)) = 8 ^ m := by
          rw [show Int32.toNatClampNeg (J ((8 : Int) ^ m)) = tn ((8 : Int) ^ m) from rfl, tn_eq (by omega)]
          exact Int.toNat_pow_of_nonneg (by decide) m
        have i8 : (((8 : Nat) ^ m : Nat) : Int) = (8 : Int) ^ m := by simp
        refine ⟨ls247 C3, m116s C3 (by omega) hm g2 ⟨_, rfl, ?_⟩⟩
        rw [e8]
        refine ⟨fun z => ?_, by omega, ?_⟩
        · rw [show (0 : Int32) = J 0 from rfl, Jlt (by omega) (by decide)] at z; omega
        refine ⟨by rw [hs_aN_ne (by omega)]; exact ls247 C3, by rw [hs_wR, hs_aN_ne (by omega)]; exact ls247 C3, ?_⟩
        generalize eh4 : wR (aN h3 (1, 8 ^ m) (8 ^ m)) 247 4 (some (hn h3)) = h4
        have X34 : Gx (TBg mk) UBg h3 h4 := by rw [← eh4]; exact Gx.aN.tr (Gx.wR (by unfold UBg; omega))
        have C4 : Lay h4 := X34.C C3 (by omega) UBg_n
        have n4 : hn h4 = hn h3 + 1 := by rw [← eh4]; rfl
        have z4 : hz h4 = hz h3 + 8 ^ m := by rw [← eh4]; rfl
        have f4 : ∀ j, fI h4 247 j = fI h3 247 j := fun j => by rw [← eh4, fI_wR, fI_aN_ne (by omega)]
        have r40 : hR h4 247 0 = some pl := by rw [← eh4, hR_wR_ne (by decide), hR_aN_ne (by omega)]; exact B3.1
        have r44 : hR h4 247 4 = some (hn h3) := by rw [← eh4]; exact hR_wR_eq
        have s4 : hs h4 (hn h3) = (1, 8 ^ m) := by rw [← eh4, hs_wR]; exact hs_aN_eq
        have a4 : ∀ x, aI h4 (hn h3) x = 0 := fun x => by rw [← eh4, aI_wR]; exact aI_aN_eq x
        clear eh4
        refine m116s C4 (by omega) hm (by rw [f4]; exact g2) ⟨_, rfl, ?_⟩
        rw [e8]
        refine ⟨fun z => ?_, by omega, by rw [hs_aN_ne (by omega)]; exact ls247 C4, ?_⟩
        · rw [show (0 : Int32) = J 0 from rfl, Jlt (by omega) (by decide)] at z; omega
        generalize eh5 : wR (aN h4 (1, 8 ^ m) (8 ^ m)) 247 5 (some (hn h4)) = h5
        have X45 : Gx (TBg mk) UBg h4 h5 := by rw [← eh5]; exact Gx.aN.tr (Gx.wR (by unfold UBg; omega))
        have n5 : hn h5 = hn h4 + 1 := by rw [← eh5]; rfl
        have z5 : hz h5 = hz h4 + 8 ^ m := by rw [← eh5]; rfl
        have f5 : ∀ j, fI h5 247 j = fI h3 247 j := fun j => by rw [← eh5, fI_wR, fI_aN_ne (by omega)]; exact f4 j
        have pj := p8_i (j := jj) (m := m) hjj hm (by have : ((8 ^ jj : Nat) : Int) = (8 : Int) ^ jj := by simp
                                                      omega)
        refine k h5 (hn h3) (hn h4) (8 ^ m) (X3.tr (X34.tr X45)) ⟨⟨?_, ?_, ?_, ?_, ?_, by omega⟩, ?_, by omega, ⟨m, hm, rfl⟩, by omega, ⟨by rw [f5]; exact g1, by rw [f5]; exact g2, by rw [f5]; exact g3, by rw [f5]; exact g6', by rw [f5]; exact g7⟩, fun x x0 x1 => ?_⟩ (Or.inr ⟨by omega, by omega⟩) ⟨by omega, ?_⟩
        · rw [← eh5, hR_wR_ne (by decide), hR_aN_ne (by omega)]; exact r40
        · rw [← eh5, hR_wR_ne (by decide), hR_aN_ne (by omega)]; exact r44
        · rw [← eh5]; exact hR_wR_eq
        · rw [← eh5, hs_wR, hs_aN_ne (by omega)]; exact s4
        · rw [← eh5, hs_wR]; exact hs_aN_eq
        · unfold apS; omega
        · rw [← eh5, aI_wR, aI_aN_ne (by omega)]; exact a4 x
        · have : ((8 ^ jj : Nat) : Int) = (8 : Int) ^ jj := by simp
          omega
    | succ z ih =>
      intro i h' e i0 F a
      have C' := F.C C1
      have B' := SeaAt_SH F.1 B1
      have s' := ls247 C'
      have g6 : fI h' 247 6 = T := by rw [F.f 247 6 (by omega)]; exact f6
      have qi := qb i i0 (by omega)
      have aq' : aI h' qu i = aI h qu i := by rw [F.a qu (fun k z => b3 z.symm), aq]
      refine v114_12 ⟨s', fun c => ?_, fun c => ⟨s', mk, B'.2.1, s', qu, B'.2.2.1, congrArg Prod.fst B'.2.2.2.2.1, ixs B'.2.2.2.2.1 (by omega) (by omega), congrArg Prod.fst B'.2.2.2.1, ?_, ?_⟩⟩
      · rw [hI_f, g6, Jle (by omega) (by omega)] at c; omega
      · rw [hI_a, aq']
        exact ixs B'.2.2.2.1 (by omega) (by omega)
      · rw [hI_a, aq', wI_wF]
        show Ex X PG (d + 1 + 1) 114 12 [some (.ref 247), some (.ref pl), some (.int (J (bI t))), some (.int (J (m : Int))), some (.int (J w)), some (.int (J i + J 1))] [] (wA h' mk (aI h qu i) 0) Q
        rw [J_add]
        refine ih (i + 1) _ (by omega) (by omega) (F.wA rfl) (fun x x0 x1 x2 => ?_)
        rw [aI_wA (by decide)] at x2
        by_cases c2 : x = aI h qu i
        · subst c2; rw [uu_eq] at x2; omega
        · rw [uu_ne (by omega) (by omega) c2] at x2
          obtain ⟨y, hy, ey⟩ := a x x0 x1 x2
          by_cases c3 : y = i
          · subst c3; exact absurd ey.symm c2
          · exact ⟨y, by omega, ey⟩
  refine lp T.toNat 0 h1 (by omega) (by omega) Fr.rf (fun x x0 x1 x2 => ?_)
  rw [am] at x2
  exact mb x x0 x1 x2
