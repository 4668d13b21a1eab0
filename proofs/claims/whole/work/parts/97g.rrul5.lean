/-! RULES as the reference reads them: clauses, texts, rule(). -/
def EnR (h : AH) (t : Nat) (e : En) : Prop := aI h 261 t = e.length ∧ ∀ k : Int, 0 ≤ k → k < e.length → aI h 260 (48 * t + 4 * k) = tbE e k ∧ aI h 260 (48 * t + 4 * k + 1) = (eX e k).1 ∧ aI h 260 (48 * t + 4 * k + 2) = (if (eX e k).1 = (eX e k).2 then -1 else (eX e k).1) ∧ aI h 260 (48 * t + 4 * k + 3) = (eX e k).2
def TRe (t : Nat) (c k : Nat) : Prop := (c = 260 ∧ 48 * t ≤ k ∧ k < 48 * t + 48) ∨ (c = 261 ∧ k = t)
def TRh (t : Nat) (c k : Nat) : Prop := TRt t c k ∨ TRe t c k
def TRg (t : Nat) (c k : Nat) : Prop := TRh t c k ∨ (c = 256 ∧ k = 14)
theorem EnR.fr {T : Nat → Nat → Prop} {h h' : AH} {t : Nat} {e : En} (E : EnR h t e) (ht : t < 6) (he : e.length ≤ 12) (F : Fr T h h') (n : ∀ a k, T a k → ¬ TRe t a k) : EnR h' t e := by
  have el : ∀ i : Int, 48 * t ≤ i → i < 48 * t + 48 → aI h' 260 i = aI h 260 i := fun i i0 i1 => F.el 260 i (fun z => n _ _ z (Or.inl ⟨rfl, by rw [tn_eq (by omega)]; omega⟩))
  refine ⟨?_, fun k k0 k1 => ?_⟩
  · rw [F.el 261 t (fun z => n _ _ z (Or.inr ⟨rfl, by rw [tn_eq (by omega)]; omega⟩))]; exact E.1
  · rw [el _ (by omega) (by omega), el _ (by omega) (by omega), el _ (by omega) (by omega), el _ (by omega) (by omega)]; exact E.2 k k0 k1
theorem EnR.ap {h h' : AH} {t : Nat} {e : En} {s1 t1 : Int} (E : EnR h t e) (e61 : aI h' 261 t = e.length + 1) (old : ∀ i : Int, 48 * t ≤ i → i < 48 * t + 4 * e.length → aI h' 260 i = aI h 260 i)
    (v0 : aI h' 260 (48 * t + 4 * e.length) = tbE e e.length) (v1 : aI h' 260 (48 * t + 4 * e.length + 1) = s1) (v2 : aI h' 260 (48 * t + 4 * e.length + 2) = (if s1 = t1 then -1 else s1)) (v3 : aI h' 260 (48 * t + 4 * e.length + 3) = t1) : EnR h' t (e ++ [(s1, t1)]) := by
  refine ⟨by rw [len_ap]; exact e61, fun k k0 k1 => ?_⟩
  rw [len_ap] at k1
  by_cases q : k = e.length
  · rw [q, eX_eq]
    have tb : tbE (e ++ [(s1, t1)]) (e.length : Int) = tbE e e.length := by
      unfold tbE
      by_cases k00 : (e.length : Int) = 0
      · rw [if_pos k00, if_pos k00]
      · rw [if_neg k00, if_neg k00, eX_lt (by omega)]
    rw [tb]
    exact ⟨v0, v1, v2, v3⟩
  · have tb : tbE (e ++ [(s1, t1)]) k = tbE e k := by
      unfold tbE
      by_cases k00 : k = 0
      · rw [if_pos k00, if_pos k00]
      · rw [if_neg k00, if_neg k00, eX_lt (by omega)]
    rw [tb, eX_lt (by omega), old _ (by omega) (by omega), old _ (by omega) (by omega), old _ (by omega) (by omega), old _ (by omega) (by omega)]
    exact E.2 k k0 (by omega)
theorem RP.e {T : Nat → Nat → Prop} {h h' : AH} {tp : Int → Int} {L j p : Int} {c : Cd} {t : Nat} (R : RP h tp L j p c t) (ht : t < 6) (hc : c.length ≤ 400) (F : Fr T h h') (n : ∀ a k, T a k → a = 260 ∨ a = 261 ∨ (a = 256 ∧ k = 14)) : RP h' tp L j p c t :=
  ⟨R.1.fr F (fun k z => by have := n _ _ z; omega) (fun z => by have := n _ _ z; omega) (fun z => by have := n _ _ z; omega) (fun z => by have := n _ _ z; omega), by rw [F.f 256 12 (fun z => by have := n _ _ z; omega)]; exact R.2.1, by rw [F.f 256 11 (fun z => by have := n _ _ z; omega)]; exact R.2.2.1, R.2.2.2.fr ht hc F (fun a k z => by have := n _ _ z; unfold TRp; omega)⟩
def T26 (c k : Nat) : Prop := c = 260 ∨ c = 261 ∨ (c = 256 ∧ k = 14)
def RQh (h : AH) (tp : Int → Int) (L : Int) (t : Nat) (r : RT) (Q : Post) : Prop := (r.1 = 0 → ∀ h', Fr (TRh t) h h' → RP h' tp L r.2.1 r.2.2.1 r.2.2.2.1 t → EnR h' t r.2.2.2.2 → Q (some (.int (J 1))) h') ∧ (¬ r.1 = 0 → ∀ h', Fr (TRh t) h h' → fI h' 256 9 = r.1 → Q (some (.int (J 0))) h')
theorem TNx_h {t c k : Nat} (z : TNx c k) : TRh t c k := Or.inl (TNx_t z)
theorem TRz_h {t c k : Nat} (z : TRz t c k) : TRh t c k := Or.inl (TRs_t z)
theorem TRt_h {t c k : Nat} (z : TRt t c k) : TRh t c k := Or.inl z
theorem T260 {t : Nat} {i : Int} (h : 48 * t ≤ i ∧ i < 48 * t + 48) (ht : t < 6) : TRh t 260 (tn i) := Or.inr (Or.inl ⟨rfl, by rw [tn_eq (by omega)]; omega⟩)
theorem T261 {t : Nat} (ht : t < 6) : TRh t 261 (tn t) := Or.inr (Or.inr ⟨rfl, by rw [tn_eq (by omega)]; omega⟩)
theorem wSif : (26982 : Int64).toInt = wSc 16 ∧ (26479 : Int64).toInt = wSc 6 := by decide
-- OutwardDoorsModel.isGoHere()Z at 0
set_option maxRecDepth 20000 in
set_option maxHeartbeats 4000000 in
theorem r191_0 {X : Cst} {d : Nat}  {h : AH} {Q : Post} (C_h : Lay h)
  (w : Ex X PG d 182 0 [some (.ref 256)] [] h (fun v1 h2 => v1 = none ∧ SH h h2 ∧ (0 ≤ fI h2 256 11 ∧ fI h2 256 11 < 6) ∧ (0 ≤ fI h2 256 11 ∧ fI h2 256 11 < 7) ∧ (0 ≤ (48 * (fI h2 256 11)) + (4 * (aI h2 261 (fI h2 256 11))) ∧ (48 * (fI h2 256 11)) + (4 * (aI h2 261 (fI h2 256 11))) < 288) ∧ Ex X PG d 192 0 [some (.ref 256), none] [] (wA h2 260 ((48 * (fI h2 256 11)) + (4 * (aI h2 261 (fI h2 256 11)))) (aI h2 259 (fI h2 256 11))) (fun v9 h10 => ∃ r11 : Int, (-2147483648 ≤ r11 ∧ r11 < 2147483648) ∧ v9 = some (.int (J r11)) ∧ SH (wA h2 260 ((48 * (fI h2 256 11)) + (4 * (aI h2 261 (fI h2 256 11)))) (aI h2 259 (fI h2 256 11))) h10 ∧ ((¬ r11 = 0 → (0 ≤ fI h10 256 11 ∧ fI h10 256 11 < 7) ∧ (0 ≤ ((48 * (fI h2 256 11)) + (4 * (aI h2 261 (fI h2 256 11)))) + 1 ∧ ((48 * (fI h2 256 11)) + (4 * (aI h2 261 (fI h2 256 11)))) + 1 < 288) ∧ (0 ≤ ((48 * (fI h2 256 11)) + (4 * (aI h2 261 (fI h2 256 11)))) + 2 ∧ ((48 * (fI h2 256 11)) + (4 * (aI h2 261 (fI h2 256 11)))) + 2 < 288) ∧ Ex X PG d 198 0 [some (.ref 256), some (.long (26982 : Int64)), none] [] (wA (wA h10 260 (((48 * (fI h2 256 11)) + (4 * (aI h2 261 (fI h2 256 11)))) + 1) (aI h10 259 (fI h10 256 11))) 260 (((48 * (fI h2 256 11)) + (4 * (aI h2 261 (fI h2 256 11)))) + 2) (-1)) (fun v20 h21 => ∃ r22 : Int, (-2147483648 ≤ r22 ∧ r22 < 2147483648) ∧ v20 = some (.int (J r22)) ∧ SH (wA (wA h10 260 (((48 * (fI h2 256 11)) + (4 * (aI h2 261 (fI h2 256 11)))) + 1) (aI h10 259 (fI h10 256 11))) 260 (((48 * (fI h2 256 11)) + (4 * (aI h2 261 (fI h2 256 11)))) + 2) (-1)) h21 ∧ ((r22 = 0 → (0 ≤ fI h21 256 11 ∧ fI h21 256 11 < 7) ∧ (0 ≤ ((48 * (fI h2 256 11)) + (4 * (aI h2 261 (fI h2 256 11)))) + 3 ∧ ((48 * (fI h2 256 11)) + (4 * (aI h2 261 (fI h2 256 11)))) + 3 < 288) ∧ (0 ≤ fI h21 256 11 ∧ fI h21 256 11 < 6) ∧ Q (some (.int (J 1))) (wA (wA h21 260 (((48 * (fI h2 256 11)) + (4 * (aI h2 261 (fI h2 256 11)))) + 3) (aI h21 259 (fI h21 256 11))) 261 (fI h21 256 11) ((aI h21 261 (fI h21 256 11)) + 1))) ∧ (¬ r22 = 0 → (0 ≤ fI h21 256 11 ∧ fI h21 256 11 < 7) ∧ Ex X PG d 199 0 [some (.ref 256), none, none] [] (wA h21 260 (((48 * (fI h2 256 11)) + (4 * (aI h2 261 (fI h2 256 11)))) + 2) (aI h21 259 (fI h21 256 11))) (fun v34 h35 => ∃ r36 : Int, (-2147483648 ≤ r36 ∧ r36 < 2147483648) ∧ v34 = some (.int (J r36)) ∧ SH (wA h21 260 (((48 * (fI h2 256 11)) + (4 * (aI h2 261 (fI h2 256 11)))) + 2) (aI h21 259 (fI h21 256 11))) h35 ∧ ((¬ r36 = 0 → (0 ≤ fI h35 256 11 ∧ fI h35 256 11 < 7) ∧ (0 ≤ ((48 * (fI h2 256 11)) + (4 * (aI h2 261 (fI h2 256 11)))) + 3 ∧ ((48 * (fI h2 256 11)) + (4 * (aI h2 261 (fI h2 256 11)))) + 3 < 288) ∧ (0 ≤ fI h35 256 11 ∧ fI h35 256 11 < 6) ∧ Q (some (.int (J 1))) (wA (wA h35 260 (((48 * (fI h2 256 11)) + (4 * (aI h2 261 (fI h2 256 11)))) + 3) (aI h35 259 (fI h35 256 11))) 261 (fI h35 256 11) ((aI h35 261 (fI h35 256 11)) + 1))) ∧ (r36 = 0 → Q (some (.int (J 0))) h35))))))) ∧ (r11 = 0 → Q (some (.int (J 0))) h10))))) :
    Ex X PG (d + 1) 191 0 [some (.ref 256), none] [] h Q := by
  refine wpx_ok (cut := []) 85 d 191 0 _ _ _ _ ?_
  show hs h 256 = (0, 11) ∧ Ex X PG d 182 0 [some (.ref 256)] [] h (fun v1 h2 => v1 = none ∧ hs h2 256 = (0, 11) ∧ hs h2 256 = (0, 11) ∧ ∃ q3, hR h2 256 6 = some q3 ∧ hs h2 256 = (0, 11) ∧ (hs h2 q3).1 = 1 ∧ ix (hF h2 256 11) (hs h2 q3).2 ∧ hs h2 256 = (0, 11) ∧ ∃ q5, hR h2 256 5 = some q5 ∧ hs h2 256 = (0, 11) ∧ ∃ q6, hR h2 256 4 = some q6 ∧ hs h2 256 = (0, 11) ∧ (hs h2 q6).1 = 1 ∧ ix (hF h2 256 11) (hs h2 q6).2 ∧ (hs h2 q5).1 = 1 ∧ ix (((J 48) * (hF h2 256 11)) + ((J 4) * (hI h2 q3 (Int32.toNatClampNeg (hF h2 256 11))))) (hs h2 q5).2 ∧ hs (wI h2 q5 (Int32.toNatClampNeg (((J 48) * (hF h2 256 11)) + ((J 4) * (hI h2 q3 (Int32.toNatClampNeg (hF h2 256 11)))))) (hI h2 q6 (Int32.toNatClampNeg (hF h2 256 11)))) 256 = (0, 11) ∧ Ex X PG d 192 0 [some (.ref 256), none] [] (wI h2 q5 (Int32.toNatClampNeg (((J 48) * (hF h2 256 11)) + ((J 4) * (hI h2 q3 (Int32.toNatClampNeg (hF h2 256 11)))))) (hI h2 q6 (Int32.toNatClampNeg (hF h2 256 11)))) (fun v9 h10 => ∃ r11, v9 = some (.int r11) ∧ ((¬ r11 = (J 0) → hs h10 256 = (0, 11) ∧ ∃ q14, hR h10 256 5 = some q14 ∧ hs h10 256 = (0, 11) ∧ ∃ q15, hR h10 256 4 = some q15 ∧ hs h10 256 = (0, 11) ∧ (hs h10 q15).1 = 1 ∧ ix (hF h10 256 11) (hs h10 q15).2 ∧ (hs h10 q14).1 = 1 ∧ ix ((((J 48) * (hF h2 256 11)) + ((J 4) * (hI h2 q3 (Int32.toNatClampNeg (hF h2 256 11))))) + (J 1)) (hs h10 q14).2 ∧ hs (wI h10 q14 (Int32.toNatClampNeg ((((J 48) * (hF h2 256 11)) + ((J 4) * (hI h2 q3 (Int32.toNatClampNeg (hF h2 256 11))))) + (J 1))) (hI h10 q15 (Int32.toNatClampNeg (hF h10 256 11)))) 256 = (0, 11) ∧ ∃ q18, hR (wI h10 q14 (Int32.toNatClampNeg ((((J 48) * (hF h2 256 11)) + ((J 4) * (hI h2 q3 (Int32.toNatClampNeg (hF h2 256 11))))) + (J 1))) (hI h10 q15 (Int32.toNatClampNeg (hF h10 256 11)))) 256 5 = some q18 ∧ (hs (wI h10 q14 (Int32.toNatClampNeg ((((J 48) * (hF h2 256 11)) + ((J 4) * (hI h2 q3 (Int32.toNatClampNeg (hF h2 256 11))))) + (J 1))) (hI h10 q15 (Int32.toNatClampNeg (hF h10 256 11)))) q18).1 = 1 ∧ ix ((((J 48) * (hF h2 256 11)) + ((J 4) * (hI h2 q3 (Int32.toNatClampNeg (hF h2 256 11))))) + (J 2)) (hs (wI h10 q14 (Int32.toNatClampNeg ((((J 48) * (hF h2 256 11)) + ((J 4) * (hI h2 q3 (Int32.toNatClampNeg (hF h2 256 11))))) + (J 1))) (hI h10 q15 (Int32.toNatClampNeg (hF h10 256 11)))) q18).2 ∧ hs (wI (wI h10 q14 (Int32.toNatClampNeg ((((J 48) * (hF h2 256 11)) + ((J 4) * (hI h2 q3 (Int32.toNatClampNeg (hF h2 256 11))))) + (J 1))) (hI h10 q15 (Int32.toNatClampNeg (hF h10 256 11)))) q18 (Int32.toNatClampNeg ((((J 48) * (hF h2 256 11)) + ((J 4) * (hI h2 q3 (Int32.toNatClampNeg (hF h2 256 11))))) + (J 2))) (J (-1))) 256 = (0, 11) ∧ Ex X PG d 198 0 [some (.ref 256), some (.long (26982 : Int64)), none] [] (wI (wI h10 q14 (Int32.toNatClampNeg ((((J 48) * (hF h2 256 11)) + ((J 4) * (hI h2 q3 (Int32.toNatClampNeg (hF h2 256 11))))) + (J 1))) (hI h10 q15 (Int32.toNatClampNeg (hF h10 256 11)))) q18 (Int32.toNatClampNeg ((((J 48) * (hF h2 256 11)) + ((J 4) * (hI h2 q3 (Int32.toNatClampNeg (hF h2 256 11))))) + (J 2))) (J (-1))) (fun v20 h21 => ∃ r22, v20 = some (.int r22) ∧ ((r22 = (J 0) → hs h21 256 = (0, 11) ∧ ∃ q25, hR h21 256 5 = some q25 ∧ hs h21 256 = (0, 11) ∧ ∃ q26, hR h21 256 4 = some q26 ∧ hs h21 256 = (0, 11) ∧ (hs h21 q26).1 = 1 ∧ ix (hF h21 256 11) (hs h21 q26).2 ∧ (hs h21 q25).1 = 1 ∧ ix ((((J 48) * (hF h2 256 11)) + ((J 4) * (hI h2 q3 (Int32.toNatClampNeg (hF h2 256 11))))) + (J 3)) (hs h21 q25).2 ∧ hs (wI h21 q25 (Int32.toNatClampNeg ((((J 48) * (hF h2 256 11)) + ((J 4) * (hI h2 q3 (Int32.toNatClampNeg (hF h2 256 11))))) + (J 3))) (hI h21 q26 (Int32.toNatClampNeg (hF h21 256 11)))) 256 = (0, 11) ∧ ∃ q29, hR (wI h21 q25 (Int32.toNatClampNeg ((((J 48) * (hF h2 256 11)) + ((J 4) * (hI h2 q3 (Int32.toNatClampNeg (hF h2 256 11))))) + (J 3))) (hI h21 q26 (Int32.toNatClampNeg (hF h21 256 11)))) 256 6 = some q29 ∧ hs (wI h21 q25 (Int32.toNatClampNeg ((((J 48) * (hF h2 256 11)) + ((J 4) * (hI h2 q3 (Int32.toNatClampNeg (hF h2 256 11))))) + (J 3))) (hI h21 q26 (Int32.toNatClampNeg (hF h21 256 11)))) 256 = (0, 11) ∧ (hs (wI h21 q25 (Int32.toNatClampNeg ((((J 48) * (hF h2 256 11)) + ((J 4) * (hI h2 q3 (Int32.toNatClampNeg (hF h2 256 11))))) + (J 3))) (hI h21 q26 (Int32.toNatClampNeg (hF h21 256 11)))) q29).1 = 1 ∧ ix (hF (wI h21 q25 (Int32.toNatClampNeg ((((J 48) * (hF h2 256 11)) + ((J 4) * (hI h2 q3 (Int32.toNatClampNeg (hF h2 256 11))))) + (J 3))) (hI h21 q26 (Int32.toNatClampNeg (hF h21 256 11)))) 256 11) (hs (wI h21 q25 (Int32.toNatClampNeg ((((J 48) * (hF h2 256 11)) + ((J 4) * (hI h2 q3 (Int32.toNatClampNeg (hF h2 256 11))))) + (J 3))) (hI h21 q26 (Int32.toNatClampNeg (hF h21 256 11)))) q29).2 ∧ (hs (wI h21 q25 (Int32.toNatClampNeg ((((J 48) * (hF h2 256 11)) + ((J 4) * (hI h2 q3 (Int32.toNatClampNeg (hF h2 256 11))))) + (J 3))) (hI h21 q26 (Int32.toNatClampNeg (hF h21 256 11)))) q29).1 = 1 ∧ ix (hF (wI h21 q25 (Int32.toNatClampNeg ((((J 48) * (hF h2 256 11)) + ((J 4) * (hI h2 q3 (Int32.toNatClampNeg (hF h2 256 11))))) + (J 3))) (hI h21 q26 (Int32.toNatClampNeg (hF h21 256 11)))) 256 11) (hs (wI h21 q25 (Int32.toNatClampNeg ((((J 48) * (hF h2 256 11)) + ((J 4) * (hI h2 q3 (Int32.toNatClampNeg (hF h2 256 11))))) + (J 3))) (hI h21 q26 (Int32.toNatClampNeg (hF h21 256 11)))) q29).2 ∧ (J 1 = J 0 ∨ J 1 = J 1) ∧ Q (some (.int (J 1))) (wI (wI h21 q25 (Int32.toNatClampNeg ((((J 48) * (hF h2 256 11)) + ((J 4) * (hI h2 q3 (Int32.toNatClampNeg (hF h2 256 11))))) + (J 3))) (hI h21 q26 (Int32.toNatClampNeg (hF h21 256 11)))) q29 (Int32.toNatClampNeg (hF (wI h21 q25 (Int32.toNatClampNeg ((((J 48) * (hF h2 256 11)) + ((J 4) * (hI h2 q3 (Int32.toNatClampNeg (hF h2 256 11))))) + (J 3))) (hI h21 q26 (Int32.toNatClampNeg (hF h21 256 11)))) 256 11)) ((hI (wI h21 q25 (Int32.toNatClampNeg ((((J 48) * (hF h2 256 11)) + ((J 4) * (hI h2 q3 (Int32.toNatClampNeg (hF h2 256 11))))) + (J 3))) (hI h21 q26 (Int32.toNatClampNeg (hF h21 256 11)))) q29 (Int32.toNatClampNeg (hF (wI h21 q25 (Int32.toNatClampNeg ((((J 48) * (hF h2 256 11)) + ((J 4) * (hI h2 q3 (Int32.toNatClampNeg (hF h2 256 11))))) + (J 3))) (hI h21 q26 (Int32.toNatClampNeg (hF h21 256 11)))) 256 11))) + (J 1)))) ∧ (¬ (r22 = (J 0)) → hs h21 256 = (0, 11) ∧ ∃ q31, hR h21 256 5 = some q31 ∧ hs h21 256 = (0, 11) ∧ ∃ q32, hR h21 256 4 = some q32 ∧ hs h21 256 = (0, 11) ∧ (hs h21 q32).1 = 1 ∧ ix (hF h21 256 11) (hs h21 q32).2 ∧ (hs h21 q31).1 = 1 ∧ ix ((((J 48) * (hF h2 256 11)) + ((J 4) * (hI h2 q3 (Int32.toNatClampNeg (hF h2 256 11))))) + (J 2)) (hs h21 q31).2 ∧ hs (wI h21 q31 (Int32.toNatClampNeg ((((J 48) * (hF h2 256 11)) + ((J 4) * (hI h2 q3 (Int32.toNatClampNeg (hF h2 256 11))))) + (J 2))) (hI h21 q32 (Int32.toNatClampNeg (hF h21 256 11)))) 256 = (0, 11) ∧ Ex X PG d 199 0 [some (.ref 256), none, none] [] (wI h21 q31 (Int32.toNatClampNeg ((((J 48) * (hF h2 256 11)) + ((J 4) * (hI h2 q3 (Int32.toNatClampNeg (hF h2 256 11))))) + (J 2))) (hI h21 q32 (Int32.toNatClampNeg (hF h21 256 11)))) (fun v34 h35 => ∃ r36, v34 = some (.int r36) ∧ ((¬ r36 = (J 0) → hs h35 256 = (0, 11) ∧ ∃ q39, hR h35 256 5 = some q39 ∧ hs h35 256 = (0, 11) ∧ ∃ q40, hR h35 256 4 = some q40 ∧ hs h35 256 = (0, 11) ∧ (hs h35 q40).1 = 1 ∧ ix (hF h35 256 11) (hs h35 q40).2 ∧ (hs h35 q39).1 = 1 ∧ ix ((((J 48) * (hF h2 256 11)) + ((J 4) * (hI h2 q3 (Int32.toNatClampNeg (hF h2 256 11))))) + (J 3)) (hs h35 q39).2 ∧ hs (wI h35 q39 (Int32.toNatClampNeg ((((J 48) * (hF h2 256 11)) + ((J 4) * (hI h2 q3 (Int32.toNatClampNeg (hF h2 256 11))))) + (J 3))) (hI h35 q40 (Int32.toNatClampNeg (hF h35 256 11)))) 256 = (0, 11) ∧ ∃ q43, hR (wI h35 q39 (Int32.toNatClampNeg ((((J 48) * (hF h2 256 11)) + ((J 4) * (hI h2 q3 (Int32.toNatClampNeg (hF h2 256 11))))) + (J 3))) (hI h35 q40 (Int32.toNatClampNeg (hF h35 256 11)))) 256 6 = some q43 ∧ hs (wI h35 q39 (Int32.toNatClampNeg ((((J 48) * (hF h2 256 11)) + ((J 4) * (hI h2 q3 (Int32.toNatClampNeg (hF h2 256 11))))) + (J 3))) (hI h35 q40 (Int32.toNatClampNeg (hF h35 256 11)))) 256 = (0, 11) ∧ (hs (wI h35 q39 (Int32.toNatClampNeg ((((J 48) * (hF h2 256 11)) + ((J 4) * (hI h2 q3 (Int32.toNatClampNeg (hF h2 256 11))))) + (J 3))) (hI h35 q40 (Int32.toNatClampNeg (hF h35 256 11)))) q43).1 = 1 ∧ ix (hF (wI h35 q39 (Int32.toNatClampNeg ((((J 48) * (hF h2 256 11)) + ((J 4) * (hI h2 q3 (Int32.toNatClampNeg (hF h2 256 11))))) + (J 3))) (hI h35 q40 (Int32.toNatClampNeg (hF h35 256 11)))) 256 11) (hs (wI h35 q39 (Int32.toNatClampNeg ((((J 48) * (hF h2 256 11)) + ((J 4) * (hI h2 q3 (Int32.toNatClampNeg (hF h2 256 11))))) + (J 3))) (hI h35 q40 (Int32.toNatClampNeg (hF h35 256 11)))) q43).2 ∧ (hs (wI h35 q39 (Int32.toNatClampNeg ((((J 48) * (hF h2 256 11)) + ((J 4) * (hI h2 q3 (Int32.toNatClampNeg (hF h2 256 11))))) + (J 3))) (hI h35 q40 (Int32.toNatClampNeg (hF h35 256 11)))) q43).1 = 1 ∧ ix (hF (wI h35 q39 (Int32.toNatClampNeg ((((J 48) * (hF h2 256 11)) + ((J 4) * (hI h2 q3 (Int32.toNatClampNeg (hF h2 256 11))))) + (J 3))) (hI h35 q40 (Int32.toNatClampNeg (hF h35 256 11)))) 256 11) (hs (wI h35 q39 (Int32.toNatClampNeg ((((J 48) * (hF h2 256 11)) + ((J 4) * (hI h2 q3 (Int32.toNatClampNeg (hF h2 256 11))))) + (J 3))) (hI h35 q40 (Int32.toNatClampNeg (hF h35 256 11)))) q43).2 ∧ (J 1 = J 0 ∨ J 1 = J 1) ∧ Q (some (.int (J 1))) (wI (wI h35 q39 (Int32.toNatClampNeg ((((J 48) * (hF h2 256 11)) + ((J 4) * (hI h2 q3 (Int32.toNatClampNeg (hF h2 256 11))))) + (J 3))) (hI h35 q40 (Int32.toNatClampNeg (hF h35 256 11)))) q43 (Int32.toNatClampNeg (hF (wI h35 q39 (Int32.toNatClampNeg ((((J 48) * (hF h2 256 11)) + ((J 4) * (hI h2 q3 (Int32.toNatClampNeg (hF h2 256 11))))) + (J 3))) (hI h35 q40 (Int32.toNatClampNeg (hF h35 256 11)))) 256 11)) ((hI (wI h35 q39 (Int32.toNatClampNeg ((((J 48) * (hF h2 256 11)) + ((J 4) * (hI h2 q3 (Int32.toNatClampNeg (hF h2 256 11))))) + (J 3))) (hI h35 q40 (Int32.toNatClampNeg (hF h35 256 11)))) q43 (Int32.toNatClampNeg (hF (wI h35 q39 (Int32.toNatClampNeg ((((J 48) * (hF h2 256 11)) + ((J 4) * (hI h2 q3 (Int32.toNatClampNeg (hF h2 256 11))))) + (J 3))) (hI h35 q40 (Int32.toNatClampNeg (hF h35 256 11)))) 256 11))) + (J 1)))) ∧ (¬ (¬ r36 = (J 0)) → (J 0 = J 0 ∨ J 0 = J 1) ∧ Q (some (.int (J 0))) h35))))))) ∧ (¬ (¬ r11 = (J 0)) → (J 0 = J 0 ∨ J 0 = J 1) ∧ Q (some (.int (J 0))) h10))))
  try simp only [aI_wAL, fI_wAL, aL_wA, aL_wF, aI_wA_ne, aI_wF_ne, fI_wA_ne, fI_wF_ne, fI_wF_nk, aL_wAL_ne, J_sameA, J_sameF, aL_same, Nat.add_left_cancel_iff, Nat.add_eq_left, Nat.left_eq_add, not_false_eq_true, Nat.reduceEqDiff, Nat.reduceAdd, J_add, J_sub, J_mul, J_neg, J_and, J_or, J_xor, J_shl, J_shr, J_div, J_i2b, J_i2l, J_l2i, J_lcm, J_max, J_min, J_nab, J_nao, rdA, rdF, rdL, wA_fold, wF_fold, wL_fold, wC_fold]
  refine ⟨(ls256 C_h), ?_⟩
  refine Ex.mono w (Nat.le_refl _) ?_
  rintro v1 h2 ⟨rfl, s48, w⟩
  refine ⟨rfl, ?_⟩
  have C_h2 := Lay_SH s48 C_h
  try simp only [aI_wAL, fI_wAL, aL_wA, aL_wF, aI_wA_ne, aI_wF_ne, fI_wA_ne, fI_wF_ne, fI_wF_nk, aL_wAL_ne, J_sameA, J_sameF, aL_same, Nat.add_left_cancel_iff, Nat.add_eq_left, Nat.left_eq_add, not_false_eq_true, Nat.reduceEqDiff, Nat.reduceAdd, J_add, J_sub, J_mul, J_neg, J_and, J_or, J_xor, J_shl, J_shr, J_div, J_i2b, J_i2l, J_l2i, J_lcm, J_max, J_min, J_nab, J_nao, rdA, rdF, rdL, wA_fold, wF_fold, wL_fold, wC_fold]
  refine ⟨(ls256 C_h2), ?_⟩
  refine ⟨(ls256 C_h2), _, (lr256_6 C_h2), ?_⟩
  refine ⟨(ls256 C_h2), ?_⟩
  obtain ⟨k4, w⟩ := w
  refine ⟨congrArg Prod.fst (ls261 C_h2), ixs (ls261 C_h2) k4 (by decide), ?_⟩
  refine ⟨(ls256 C_h2), _, (lr256_5 C_h2), ?_⟩
  refine ⟨(ls256 C_h2), _, (lr256_4 C_h2), ?_⟩
  refine ⟨(ls256 C_h2), ?_⟩
  obtain ⟨k7, w⟩ := w
  refine ⟨congrArg Prod.fst (ls259 C_h2), ixs (ls259 C_h2) k7 (by decide), ?_⟩
  obtain ⟨k8, w⟩ := w
  refine ⟨congrArg Prod.fst (ls260 C_h2), ixs (ls260 C_h2) k8 (by decide), ?_⟩
  refine ⟨(ls256 C_h2), ?_⟩
  refine Ex.mono w (Nat.le_refl _) ?_
  rintro v9 h10 ⟨r11, gr11, rfl, s47, w⟩
  refine ⟨_, rfl, ?_⟩
  have C_h10 := Lay_SH s47 C_h2
  try simp only [aI_wAL, fI_wAL, aL_wA, aL_wF, aI_wA_ne, aI_wF_ne, fI_wA_ne, fI_wF_ne, fI_wF_nk, aL_wAL_ne, J_sameA, J_sameF, aL_same, Nat.add_left_cancel_iff, Nat.add_eq_left, Nat.left_eq_add, not_false_eq_true, Nat.reduceEqDiff, Nat.reduceAdd, J_add, J_sub, J_mul, J_neg, J_and, J_or, J_xor, J_shl, J_shr, J_div, J_i2b, J_i2l, J_l2i, J_lcm, J_max, J_min, J_nab, J_nao, rdA, rdF, rdL, wA_fold, wF_fold, wL_fold, wC_fold]
  refine ⟨fun c12 => ?_, fun c12 => ?_⟩
  · have t13 : ¬ r11 = 0 := (fun e => c12 ((Jeq gr11 (by decide)).mpr e))
    replace w := w.1 t13
    refine ⟨(ls256 C_h10), _, (lr256_5 C_h10), ?_⟩
    refine ⟨(ls256 C_h10), _, (lr256_4 C_h10), ?_⟩
    refine ⟨(ls256 C_h10), ?_⟩
    obtain ⟨k16, w⟩ := w
    refine ⟨congrArg Prod.fst (ls259 C_h10), ixs (ls259 C_h10) k16 (by decide), ?_⟩
    obtain ⟨k17, w⟩ := w
    refine ⟨congrArg Prod.fst (ls260 C_h10), ixs (ls260 C_h10) k17 (by decide), ?_⟩
    refine ⟨(ls256 C_h10), _, (lr256_5 C_h10), ?_⟩
    obtain ⟨k19, w⟩ := w
    refine ⟨congrArg Prod.fst (ls260 C_h10), ixs (ls260 C_h10) k19 (by decide), ?_⟩
    refine ⟨(ls256 C_h10), ?_⟩
    refine Ex.mono w (Nat.le_refl _) ?_
    rintro v20 h21 ⟨r22, gr22, rfl, s46, w⟩
    refine ⟨_, rfl, ?_⟩
    have C_h21 := Lay_SH s46 C_h10
    try simp only [aI_wAL, fI_wAL, aL_wA, aL_wF, aI_wA_ne, aI_wF_ne, fI_wA_ne, fI_wF_ne, fI_wF_nk, aL_wAL_ne, J_sameA, J_sameF, aL_same, Nat.add_left_cancel_iff, Nat.add_eq_left, Nat.left_eq_add, not_false_eq_true, Nat.reduceEqDiff, Nat.reduceAdd, J_add, J_sub, J_mul, J_neg, J_and, J_or, J_xor, J_shl, J_shr, J_div, J_i2b, J_i2l, J_l2i, J_lcm, J_max, J_min, J_nab, J_nao, rdA, rdF, rdL, wA_fold, wF_fold, wL_fold, wC_fold]
    refine ⟨fun c23 => ?_, fun c23 => ?_⟩
    · have t24 : r22 = 0 := ((Jeq gr22 (by decide)).mp c23)
      replace w := w.1 t24
      refine ⟨(ls256 C_h21), _, (lr256_5 C_h21), ?_⟩
      refine ⟨(ls256 C_h21), _, (lr256_4 C_h21), ?_⟩
      refine ⟨(ls256 C_h21), ?_⟩
      obtain ⟨k27, w⟩ := w
      refine ⟨congrArg Prod.fst (ls259 C_h21), ixs (ls259 C_h21) k27 (by decide), ?_⟩
      obtain ⟨k28, w⟩ := w
      refine ⟨congrArg Prod.fst (ls260 C_h21), ixs (ls260 C_h21) k28 (by decide), ?_⟩
      refine ⟨(ls256 C_h21), _, (lr256_6 C_h21), ?_⟩
      refine ⟨(ls256 C_h21), ?_⟩
      obtain ⟨k30, w⟩ := w
      refine ⟨congrArg Prod.fst (ls261 C_h21), ixs (ls261 C_h21) k30 (by decide), ?_⟩
      try simp only [aI_wAL, fI_wAL, aL_wA, aL_wF, aI_wA_ne, aI_wF_ne, fI_wA_ne, fI_wF_ne, fI_wF_nk, aL_wAL_ne, J_sameA, J_sameF, aL_same, Nat.add_left_cancel_iff, Nat.add_eq_left, Nat.left_eq_add, not_false_eq_true, Nat.reduceEqDiff, Nat.reduceAdd]
      refine ⟨congrArg Prod.fst (ls261 C_h21), ixs (ls261 C_h21) k30 (by decide), ?_⟩
      exact ⟨(Or.inr (by trivial)), w⟩
    · have t24 : ¬ r22 = 0 := (fun e => c23 ((Jeq gr22 (by decide)).mpr e))
      replace w := w.2 t24
      refine ⟨(ls256 C_h21), _, (lr256_5 C_h21), ?_⟩
      refine ⟨(ls256 C_h21), _, (lr256_4 C_h21), ?_⟩
      refine ⟨(ls256 C_h21), ?_⟩
      obtain ⟨k33, w⟩ := w
      refine ⟨congrArg Prod.fst (ls259 C_h21), ixs (ls259 C_h21) k33 (by decide), ?_⟩
      refine ⟨congrArg Prod.fst (ls260 C_h21), ixs (ls260 C_h21) k19 (by decide), ?_⟩
      refine ⟨(ls256 C_h21), ?_⟩
      refine Ex.mono w (Nat.le_refl _) ?_
      rintro v34 h35 ⟨r36, gr36, rfl, s45, w⟩
      refine ⟨_, rfl, ?_⟩
      have C_h35 := Lay_SH s45 C_h21
      try simp only [aI_wAL, fI_wAL, aL_wA, aL_wF, aI_wA_ne, aI_wF_ne, fI_wA_ne, fI_wF_ne, fI_wF_nk, aL_wAL_ne, J_sameA, J_sameF, aL_same, Nat.add_left_cancel_iff, Nat.add_eq_left, Nat.left_eq_add, not_false_eq_true, Nat.reduceEqDiff, Nat.reduceAdd, J_add, J_sub, J_mul, J_neg, J_and, J_or, J_xor, J_shl, J_shr, J_div, J_i2b, J_i2l, J_l2i, J_lcm, J_max, J_min, J_nab, J_nao, rdA, rdF, rdL, wA_fold, wF_fold, wL_fold, wC_fold]
      refine ⟨fun c37 => ?_, fun c37 => ?_⟩
      · have t38 : ¬ r36 = 0 := (fun e => c37 ((Jeq gr36 (by decide)).mpr e))
        replace w := w.1 t38
        refine ⟨(ls256 C_h35), _, (lr256_5 C_h35), ?_⟩
        refine ⟨(ls256 C_h35), _, (lr256_4 C_h35), ?_⟩
        refine ⟨(ls256 C_h35), ?_⟩
        obtain ⟨k41, w⟩ := w
        refine ⟨congrArg Prod.fst (ls259 C_h35), ixs (ls259 C_h35) k41 (by decide), ?_⟩
        obtain ⟨k42, w⟩ := w
        refine ⟨congrArg Prod.fst (ls260 C_h35), ixs (ls260 C_h35) k42 (by decide), ?_⟩
        refine ⟨(ls256 C_h35), _, (lr256_6 C_h35), ?_⟩
        refine ⟨(ls256 C_h35), ?_⟩
        obtain ⟨k44, w⟩ := w
        refine ⟨congrArg Prod.fst (ls261 C_h35), ixs (ls261 C_h35) k44 (by decide), ?_⟩
        try simp only [aI_wAL, fI_wAL, aL_wA, aL_wF, aI_wA_ne, aI_wF_ne, fI_wA_ne, fI_wF_ne, fI_wF_nk, aL_wAL_ne, J_sameA, J_sameF, aL_same, Nat.add_left_cancel_iff, Nat.add_eq_left, Nat.left_eq_add, not_false_eq_true, Nat.reduceEqDiff, Nat.reduceAdd]
        refine ⟨congrArg Prod.fst (ls261 C_h35), ixs (ls261 C_h35) k44 (by decide), ?_⟩
        exact ⟨(Or.inr (by trivial)), w⟩
      · have t38 : r36 = 0 := ((Jeq gr36 (by decide)).mp (Classical.byContradiction c37))
        replace w := w.2 t38
        exact ⟨(Or.inl (by trivial)), w⟩
  · have t13 : r11 = 0 := ((Jeq gr11 (by decide)).mp (Classical.byContradiction c12))
    replace w := w.2 t13
    exact ⟨(Or.inl (by trivial)), w⟩
theorem m191 {X : Cst} {d t : Nat} {L j p : Int} {tp : Int → Int} {c : Cd} {e : En} {r : RT} {h : AH} {Q : Post} (C : Lay h) (hd : 11 ≤ d) (B : BT tp) (ht : t < 6) (R : RP h tp L j p c t) (e8 : fI h 256 8 = j) (l : j < L ∧ leP (tp j)) (E : EnR h t e) (I : RI L j p c e) (he : e.length < 12) (er : r = gB tp L (sm tp L (nx tp L j) p c) e) (k : RQh h tp L t r Q) : Ex X PG d 191 0 [some (.ref 256), none] [] h Q := by
  obtain ⟨d, rfl⟩ : ∃ e, d = e + 1 := ⟨d - 1, by omega⟩
  have kj := R.1.j
  obtain ⟨I1, I2, I3, I4, I5⟩ := I
  have nbx := nx_b (tp := tp) (L := L) (j := j) I1.1 I1.2
  have lt := l.1
  refine r191_0 C ?_
  refine m182w C (by omega) R.1 e8 l (fun h2 F2 K2 => ⟨rfl, F2.1, ?_⟩)
  have R2 := R.nx ht (by omega) F2 K2
  have E2 := E.fr ht I4 F2 (fun a k z => by unfold TNx at z; unfold TRe; omega)
  have C2 := F2.C C
  rw [R2.2.2.1, E2.1, R2.2.2.2.1]
  have F3 : Fr T26 h2 (wA h2 260 (48 * t + 4 * e.length) c.length) := Fr.rf.wA (Or.inl rfl)
  have G3 : Fr (TRh t) h (wA h2 260 (48 * t + 4 * e.length) c.length) := (F2.mo (fun _ _ => TNx_h)).wA (T260 (by omega) ht)
  have R3 := R2.e ht (by omega) F3 (fun _ _ z => z)
  refine ⟨by omega, by omega, by omega, ?_⟩
  refine m192 (F3.C C2) (by omega) B ht R3 (by omega) I2 ⟨fun z h4 F4 R4 => ⟨1, by omega, rfl, F4.1, fun _ => ?_, fun z => absurd z (by decide)⟩, fun z h4 F4 e9 => ⟨0, by omega, rfl, F4.1, fun z => absurd rfl z, fun _ => ?_⟩⟩
  rotate_left
  · unfold gB at er
    rw [pI_neg z] at er
    exact k.2 (by rw [er]; exact z) h4 (G3.tr (F4.mo (fun _ _ => TRz_h))) (by rw [er]; exact e9)
  unfold gB at er
  rw [pI_pos z] at er
  obtain ⟨g1, g2, dd, g3, g4, -⟩ := Gd_sm (tp := tp) (c := c) (by omega) nbx.2.1 I2.2 z
  generalize (sm tp L (nx tp L j) p c).2.1 = j1 at *
  generalize (sm tp L (nx tp L j) p c).2.2.1 = p1 at *
  generalize (sm tp L (nx tp L j) p c).2.2.2 = c1 at *
  have cl : (c1.length : Int) ≤ j1 := by rw [g3, List.length_append]; omega
  have G4 := G3.tr (F4.mo (fun _ _ => TRz_h))
  have C4 := G4.C C
  rw [R4.2.2.1, R4.2.2.2.1]
  have U4 : aI h4 260 = uu_ (aI h 260) (48 * t + 4 * e.length) c.length := by rw [F4.a 260 (by unfold TRz TRp; omega), aI_wA (by omega), F2.a 260 (by unfold TNx; omega)]
  have V4 : aI h4 261 = aI h 261 := by rw [F4.a 261 (by unfold TRz TRp; omega), aI_wA_ne (by decide), F2.a 261 (by unfold TNx; omega)]
  refine ⟨by omega, by omega, by omega, ?_⟩
  have F5 : Fr T26 h4 (wA (wA h4 260 (48 * t + 4 * e.length + 1) c1.length) 260 (48 * t + 4 * e.length + 2) (-1)) := (Fr.rf.wA (Or.inl rfl)).wA (Or.inl rfl)
  have G5 : Fr (TRh t) h (wA (wA h4 260 (48 * t + 4 * e.length + 1) c1.length) 260 (48 * t + 4 * e.length + 2) (-1)) := (G4.wA (T260 (by omega) ht)).wA (T260 (by omega) ht)
  have R5 := R4.e ht (by omega) F5 (fun _ _ z => z)
  have U5 : aI (wA (wA h4 260 (48 * t + 4 * e.length + 1) c1.length) 260 (48 * t + 4 * e.length + 2) (-1)) 260 = uu_ (uu_ (uu_ (aI h 260) (48 * t + 4 * e.length) c.length) (48 * t + 4 * e.length + 1) c1.length) (48 * t + 4 * e.length + 2) (-1) := by rw [aI_wA (by omega), aI_wA (by omega), U4]
  have V5 : aI (wA (wA h4 260 (48 * t + 4 * e.length + 1) c1.length) 260 (48 * t + 4 * e.length + 2) (-1)) 261 = aI h 261 := by rw [aI_wA_ne (by decide), aI_wA_ne (by decide), V4]
  generalize wA (wA h4 260 (48 * t + 4 * e.length + 1) c1.length) 260 (48 * t + 4 * e.length + 2) (-1) = h5 at *
  have C5 := G5.C C
  have la := I5.last
  refine m198 C5 (by omega) R5.1 wSif.1 (wSb 16 (by decide)) (fun y h6 F6 K6 => ⟨1, by omega, rfl, F6.1, fun z => absurd z (by decide), fun _ => ?_⟩) (fun y h6 F6 K6 => ⟨0, by omega, rfl, F6.1, fun _ => ?_, fun z => absurd rfl z⟩)
  · -- a test
    have R6 := R5.nx ht (by omega) F6 K6
    have G6 := G5.tr (F6.mo (fun _ _ => TNx_h))
    rw [pI_pos y] at er
    rw [R6.2.2.1, R6.2.2.2.1]
    refine ⟨by omega, ?_⟩
    have F7 : Fr T26 h6 (wA h6 260 (48 * t + 4 * e.length + 2) c1.length) := Fr.rf.wA (Or.inl rfl)
    have G7 : Fr (TRh t) h (wA h6 260 (48 * t + 4 * e.length + 2) c1.length) := G6.wA (T260 (by omega) ht)
    have R7 := R6.e ht (by omega) F7 (fun _ _ z => z)
    have U7 : aI (wA h6 260 (48 * t + 4 * e.length + 2) c1.length) 260 = uu_ (uu_ (uu_ (uu_ (aI h 260) (48 * t + 4 * e.length) c.length) (48 * t + 4 * e.length + 1) c1.length) (48 * t + 4 * e.length + 2) (-1)) (48 * t + 4 * e.length + 2) c1.length := by rw [aI_wA (by omega), F6.a 260 (by unfold TNx; omega), U5]
    have V7 : aI (wA h6 260 (48 * t + 4 * e.length + 2) c1.length) 261 = aI h 261 := by rw [aI_wA_ne (by decide), F6.a 261 (by unfold TNx; omega), V5]
    generalize wA h6 260 (48 * t + 4 * e.length + 2) c1.length = h7 at *
    have b1 := nx_b (tp := tp) (L := L) (j := j1) (by omega) g1.2
    unfold gT at er
    refine m199 (G7.C C) (by omega) B ht R7 (by omega) (by omega) rfl (fun z h8 F8 R8 => ⟨1, by omega, rfl, F8.1, fun _ => ?_, fun z => absurd z (by decide)⟩) (fun z h8 F8 e9 => ⟨0, by omega, rfl, F8.1, fun z => absurd rfl z, fun _ => ?_⟩)
    · rw [pI_pos z] at er
      obtain ⟨y1, y2, d2, y3, y4, y5, -⟩ := (Gd_ft (tp := tp) (L := L) 802 0 (nx tp L j1) p1 c1 (by omega) b1.2.1 (by omega)).2 false false z
      generalize (ft tp L 802 true 0 false false (nx tp L j1) p1 c1).2.1 = j2 at *
      generalize (ft tp L 802 true 0 false false (nx tp L j1) p1 c1).2.2.1 = p2 at *
      generalize (ft tp L 802 true 0 false false (nx tp L j1) p1 c1).2.2.2 = c2 at *
      have ne : 0 < d2.length := by
        rcases d2 with _ | ⟨x, d2⟩
        · exact absurd rfl (trL_ne y5)
        · rw [List.length_cons]; omega
      have nb0 : nb false + nb false = 0 := by decide
      have l2 : (c2.length : Int) = c1.length + d2.length := by rw [y3, List.length_append]; omega
      have G8 := G7.tr (F8.mo (fun _ _ => TRt_h))
      have U8 : aI h8 260 = aI h7 260 := F8.a 260 (by unfold TRt TRp; omega)
      have V8 : aI h8 261 = aI h 261 := by rw [F8.a 261 (by unfold TRt TRp; omega), V7]
      have e61 : aI h8 261 t = e.length := by rw [V8]; exact E.1
      rw [R8.2.2.1, R8.2.2.2.1, e61]
      refine ⟨by omega, by omega, by omega, k.1 (by rw [er]) _ ((G8.wA (T260 (by omega) ht)).wA (T261 ht)) ?_ ?_⟩
      · rw [er]
        exact R8.e ht (by omega) ((Fr.rf.wA (Or.inl rfl)).wA (Or.inr (Or.inl rfl)) : Fr T26 h8 _) (fun _ _ z => z)
      · rw [er]
        refine EnR.ap E ?_ (fun i i0 i1 => ?_) ?_ ?_ ?_ ?_
        · rw [aI_wA (by omega), uu_eq]
        · rw [aI_wA_ne (by decide), aI_wA (by omega), uu_ne (by omega) (by omega) (by omega), U8, U7, uu_ne (by omega) (by omega) (by omega), uu_ne (by omega) (by omega) (by omega), uu_ne (by omega) (by omega) (by omega), uu_ne (by omega) (by omega) (by omega)]
        · rw [aI_wA_ne (by decide), aI_wA (by omega), uu_ne (by omega) (by omega) (by omega), U8, U7, uu_ne (by omega) (by omega) (by omega), uu_ne (by omega) (by omega) (by omega), uu_ne (by omega) (by omega) (by omega), uu_eq]; exact la.symm
        · rw [aI_wA_ne (by decide), aI_wA (by omega), uu_ne (by omega) (by omega) (by omega), U8, U7, uu_ne (by omega) (by omega) (by omega), uu_ne (by omega) (by omega) (by omega), uu_eq]
        · rw [aI_wA_ne (by decide), aI_wA (by omega), uu_ne (by omega) (by omega) (by omega), U8, U7, uu_eq, if_neg (by omega)]
        · rw [aI_wA_ne (by decide), aI_wA (by omega), uu_eq]
    · rw [pI_neg z] at er
      exact k.2 (by rw [er]; exact z) h8 (G7.tr (F8.mo (fun _ _ => TRt_h))) (by rw [er]; exact e9)
  · -- no test
    have R6 := R5.nx ht (by omega) F6 K6
    have G6 := G5.tr (F6.mo (fun _ _ => TNx_h))
    rw [pI_neg y] at er
    have U6 : aI h6 260 = uu_ (uu_ (uu_ (aI h 260) (48 * t + 4 * e.length) c.length) (48 * t + 4 * e.length + 1) c1.length) (48 * t + 4 * e.length + 2) (-1) := by rw [F6.a 260 (by unfold TNx; omega), U5]
    have e61 : aI h6 261 t = e.length := by rw [F6.a 261 (by unfold TNx; omega), V5]; exact E.1
    rw [R6.2.2.1, R6.2.2.2.1, e61]
    refine ⟨by omega, by omega, by omega, k.1 (by rw [er]) _ ((G6.wA (T260 (by omega) ht)).wA (T261 ht)) ?_ ?_⟩
    · rw [er]
      exact R6.e ht (by omega) ((Fr.rf.wA (Or.inl rfl)).wA (Or.inr (Or.inl rfl)) : Fr T26 h6 _) (fun _ _ z => z)
    · rw [er]
      refine EnR.ap E ?_ (fun i i0 i1 => ?_) ?_ ?_ ?_ ?_
      · rw [aI_wA (by omega), uu_eq]
      · rw [aI_wA_ne (by decide), aI_wA (by omega), uu_ne (by omega) (by omega) (by omega), U6, uu_ne (by omega) (by omega) (by omega), uu_ne (by omega) (by omega) (by omega), uu_ne (by omega) (by omega) (by omega)]
      · rw [aI_wA_ne (by decide), aI_wA (by omega), uu_ne (by omega) (by omega) (by omega), U6, uu_ne (by omega) (by omega) (by omega), uu_ne (by omega) (by omega) (by omega), uu_eq]; exact la.symm
      · rw [aI_wA_ne (by decide), aI_wA (by omega), uu_ne (by omega) (by omega) (by omega), U6, uu_ne (by omega) (by omega) (by omega), uu_eq]
      · rw [aI_wA_ne (by decide), aI_wA (by omega), uu_ne (by omega) (by omega) (by omega), U6, uu_eq, if_pos rfl]
      · rw [aI_wA_ne (by decide), aI_wA (by omega), uu_eq]
def RQg (h : AH) (tp : Int → Int) (L : Int) (t : Nat) (r : RT) (Q : Post) : Prop := (r.1 = 0 → ∀ h', Fr (TRg t) h h' → RP h' tp L r.2.1 r.2.2.1 r.2.2.2.1 t → EnR h' t r.2.2.2.2 → fI h' 256 14 = r.2.2.2.2.length → Q (some (.int (J 1))) h') ∧ (¬ r.1 = 0 → ∀ h', Fr (TRg t) h h' → fI h' 256 9 = r.1 → Q (some (.int (J 0))) h')
theorem TNx_g {t c k : Nat} (z : TNx c k) : TRg t c k := Or.inl (TNx_h z)
theorem m174g {X : Cst} {d t : Nat} {L j p : Int} {tp : Int → Int} {c : Cd} {e : En} {r : RT} {h : AH} {Q : Post} (C : Lay h) (hd : 12 ≤ d) (B : BT tp) (ht : t < 6) (R : RP h tp L j p c t) (e14 : fI h 256 14 = e.length) (E : EnR h t e) (I : RI L j p c e) (er : r = gc tp L j p c e) (k : RQg h tp L t r Q) : Ex X PG d 174 0 [some (.ref 256), none, none] [] h Q := by
  obtain ⟨d, rfl⟩ : ∃ e, d = e + 1 := ⟨d - 1, by omega⟩
  have kj := R.1.j
  have I3 := I.2.2.1
  have I4 := I.2.2.2.1
  have sv := (seeV_is (tp := tp) (L := L) (j := j) B kj.1 kj.2.2.1).2.2
  unfold gc at er
  refine r174_0 C ?_
  refine m175 C (by omega) R.1 (fun h2 F2 K2 e2 => ⟨_, by omega, rfl, F2.1, ?_⟩)
  have R2 := R.nx ht (by omega) F2 K2
  have E2 := E.fr ht I4 F2 (fun a k z => by unfold TNx at z; unfold TRe; omega)
  have C2 := F2.C C
  rw [e2, R2.2.2.1]
  refine ⟨fun _ => ?_, fun z => absurd z (by omega)⟩
  refine m177s C2 (by omega) K2 (s := 6) (by decide) wSif.2 (fun y l h3 F3 K3 e3 => ⟨1, by omega, rfl, F3.1, fun _ => ?_, fun z => absurd z (by decide)⟩) (fun y h3 F3 K3 e3 => ⟨0, by omega, rfl, F3.1, fun z => absurd rfl z, fun _ => ?_⟩)
  · rw [pI_pos y] at er
    have R3 := R2.nx ht (by omega) F3 K3
    have E3 := E2.fr ht I4 F3 (fun a k z => by unfold TNx at z; unfold TRe; omega)
    have G3 : Fr (TRg t) h h3 := (F2.tr F3).mo (fun _ _ => TNx_g)
    have f14 : fI h3 256 14 = e.length := by rw [(F2.tr F3).f 256 14 (by unfold TNx; omega)]; exact e14
    rw [f14]
    refine ⟨fun n => ?_, fun n => ?_⟩
    · rw [pI_neg n] at er
      have F4 : Fr T26 h3 (wF h3 256 14 (e.length + 1)) := Fr.rf.wF (Or.inr (Or.inr ⟨rfl, rfl⟩))
      have G4 : Fr (TRg t) h (wF h3 256 14 (e.length + 1)) := G3.wF (Or.inr ⟨rfl, rfl⟩)
      have R4 := R3.e ht (by omega) F4 (fun _ _ z => z)
      have E4 : EnR (wF h3 256 14 (e.length + 1)) t e := E3.fr (T := fun c k => c = 256 ∧ k = 14) ht I4 (Fr.rf.wF ⟨rfl, rfl⟩) (fun a k z => by unfold TRe; omega)
      have gk := gc_ok (tp := tp) I
      unfold gc at gk
      rw [pI_pos y, pI_neg n, ← er] at gk
      refine m191 (G4.C C) (by omega) B ht R4 (by rw [fI_wF_nk (by decide)]; exact e3) l E4 I (by omega) er ⟨fun z h5 F5 R5 E5 => ⟨1, by omega, rfl, F5.1, Or.inr rfl, ?_⟩, fun z h5 F5 e9 => ⟨0, by omega, rfl, F5.1, Or.inl rfl, ?_⟩⟩
      · refine k.1 z h5 (G4.tr (F5.mo (fun _ _ z => Or.inl z))) R5 E5 ?_
        rw [F5.f 256 14 (by unfold TRh TRt TRp TRe; omega), fI_wF_eq (by omega)]
        have := (gk z).2
        omega
      · exact k.2 z h5 (G4.tr (F5.mo (fun _ _ z => Or.inl z))) e9
    · rw [pI_pos n] at er
      refine m179 (G3.C C) (by omega) K3.2.2.2.2 ⟨0, by omega, rfl, SH.rf.wF, Or.inl rfl, ?_⟩
      exact k.2 (by rw [er]; show ¬ 1 + 8 * j + 4 = 0; omega) _ (G3.wF (Or.inl (Or.inl (by unfold TRt; omega)))) (by rw [er, fI_wF_eq (by omega)]; rfl)
  · rw [pI_neg y] at er
    refine m179 (F3.C C2) (by omega) K3.2.2.2.2 ⟨0, by omega, rfl, SH.rf.wF, Or.inl rfl, ?_⟩
    have G3 : Fr (TRg t) h h3 := (F2.tr F3).mo (fun _ _ => TNx_g)
    exact k.2 (by rw [er]; show ¬ 1 + 8 * j = 0; omega) _ (G3.wF (Or.inl (Or.inl (by unfold TRt; omega)))) (by rw [er, fI_wF_eq (by omega)]; show 1 + 8 * j + 0 = 1 + 8 * j; omega)
