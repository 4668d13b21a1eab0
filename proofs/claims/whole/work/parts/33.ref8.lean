/-! RULES: reckons, summedBy. -/
theorem ev1_TV {o a : Int} {w : Int → Int64} {st : List Int64} {s s' : List Bool} (h : tr1 o s = some s') (v : TV st s) : TV (ev1 o a w st) s' := by
  unfold tr1 at h
  unfold ev1
  by_cases c0 : o = 0
  · rw [if_pos (Or.inl c0)] at h
    cases h
    rw [if_pos c0]
    exact ⟨fun z => absurd z (by decide), v⟩
  · by_cases c1 : o = 1
    · rw [if_pos (Or.inr c1)] at h
      cases h
      rw [if_neg c0, if_pos c1]
      exact ⟨fun z => absurd z (by decide), v⟩
    · rw [if_neg (fun z => z.elim c0 c1)] at h
      rw [if_neg c0, if_neg c1]
      by_cases c11 : o = 11
      · rw [if_pos c11] at h
        rw [if_pos c11]
        match s, st, v, h with
        | true :: r, x :: q, v, h =>
          cases h
          refine ⟨fun _ => ?_, v.2⟩
          rcases v.1 rfl with e | e <;> rw [e]
          · exact Or.inr (by decide)
          · exact Or.inl (by decide)
      · rw [if_neg c11] at h
        rw [if_neg c11]
        by_cases c12 : o = 12 ∨ o = 13
        · rw [if_pos c12] at h
          match s, st, v, h with
          | true :: true :: r, y :: x :: q, v, h =>
            cases h
            refine ⟨fun _ => ?_, v.2.2⟩
            have b1 := v.1 rfl
            have b2 := v.2.1 rfl
            unfold opL
            rw [if_neg (by omega), if_neg (by omega), if_neg (by omega), if_neg (by omega), if_neg (by omega), if_neg (by omega), if_neg (by omega), if_neg (by omega), if_neg (by omega)]
            by_cases q12 : o = 12
            · rw [if_pos q12]
              rcases b1 with e | e <;> rcases b2 with e' | e' <;> rw [e, e'] <;> decide
            · rw [if_neg q12, if_neg (by omega)]
              rcases b1 with e | e <;> rcases b2 with e' | e' <;> rw [e, e'] <;> decide
        · rw [if_neg c12] at h
          by_cases c6 : 6 ≤ o ∧ o ≤ 10
          · rw [if_pos c6] at h
            match s, st, v, h with
            | false :: false :: r, y :: x :: q, v, h =>
              cases h
              refine ⟨fun _ => ?_, v.2.2⟩
              unfold opL
              rw [if_neg (by omega), if_neg (by omega), if_neg (by omega), if_neg (by omega)]
              by_cases q6 : o = 6
              · rw [if_pos q6]; exact bL_or _
              · rw [if_neg q6]
                by_cases q7 : o = 7
                · rw [if_pos q7]; exact bL_or _
                · rw [if_neg q7]
                  by_cases q8 : o = 8
                  · rw [if_pos q8]; exact bL_or _
                  · rw [if_neg q8]
                    by_cases q9 : o = 9
                    · rw [if_pos q9]; exact bL_or _
                    · rw [if_neg q9, if_pos (by omega)]; exact bL_or _
          · rw [if_neg c6] at h
            by_cases c2 : (2 ≤ o ∧ o ≤ 5) ∨ o = 14
            · rw [if_pos c2] at h
              match s, st, v, h with
              | false :: false :: r, y :: x :: q, v, h =>
                cases h
                exact ⟨fun z => absurd z (by decide), v.2.2⟩
            · rw [if_neg c2] at h
              cases h
def Stk (A : Int → Int64) : List Int64 → Prop
  | [] => True
  | x :: r => A (r.length : Int) = x ∧ Stk A r
theorem Stk_up {A : Int → Int64} {i : Int} {v : Int64} : ∀ {st : List Int64}, (st.length : Int) ≤ i → i < 2147483648 → Stk A st → Stk (uuL A i v) st := by
  intro st
  induction st with
  | nil => intros; trivial
  | cons x r ih =>
    intro h1 h2 h
    rw [List.length_cons] at h1
    refine ⟨?_, ih (by omega) h2 h.2⟩
    rw [uuL_ne ⟨by omega, h2⟩ ⟨by omega, by omega⟩ (by omega)]
    exact h.1
def CodeAt (A : Int → Int) (base : Int) (op ar : Int → Int) (b e : Int) : Prop := ∀ j, b ≤ j → j < e → A (base + j) = op j + 16 * ar j ∧ (0 ≤ op j ∧ op j < 16) ∧ (0 ≤ ar j ∧ ar j < 100000) ∧ (op j = 1 → ar j < 12)
theorem iand_15 {x : Int} (h : 0 ≤ x ∧ x < 2147483648) : iand x 15 = x % 16 := by
  obtain ⟨n, rfl⟩ := Int.eq_ofNat_of_zero_le h.1
  rw [show (15 : Int) = ((15 : Nat) : Int) from rfl, iand_nat (by omega), show (15 : Nat) = 2 ^ 4 - 1 from rfl, Nat.and_two_pow_sub_one_eq_mod]
  omega
theorem shr_4 {x : Int} (h : 0 ≤ x ∧ x < 2147483648) : shr x (iand 4 31) = x / 16 := by
  rw [shr_e ⟨by omega, h.2⟩ (by decide)]
  rfl
def TS (c k : Nat) : Prop := c = 264 ∨ (c = 256 ∧ k = 18)
-- OutwardDoorsModel.reckons(III)J at 0
set_option maxRecDepth 20000 in
set_option maxHeartbeats 4000000 in
theorem r239_0 {X : Cst} {d : Nat} {x1 : Int} {x2 : Int} {x3 : Int} {h : AH} {Q : Post} (C_h : Lay h)
  (w : Ex X PG (d + 1) 239 8 [some (.ref 256), some (.int (J x1)), some (.int (J x2)), some (.int (J x3)), some (.int (J x2)), none, none, none, none, none, none] [] (wF h 256 18 0) Q) :
    Ex X PG (d + 1) 239 0 [some (.ref 256), some (.int (J x1)), some (.int (J x2)), some (.int (J x3)), none, none, none, none, none, none, none] [] h Q := by
  refine wpx_ok (cut := [8]) 5 d 239 0 _ _ _ _ ?_
  show hs h 256 = (0, 11) ∧ Ex X PG (d + 1) 239 8 [some (.ref 256), some (.int (J x1)), some (.int (J x2)), some (.int (J x3)), some (.int (J x2)), none, none, none, none, none, none] [] (wG h 256 18 (J 0)) Q
  try simp only [aI_wAL, fI_wAL, aL_wA, aL_wF, aI_wA_ne, aI_wF_ne, fI_wA_ne, fI_wF_ne, fI_wF_nk, aL_wAL_ne, J_sameA, J_sameF, aL_same, Nat.add_left_cancel_iff, Nat.add_eq_left, Nat.left_eq_add, not_false_eq_true, Nat.reduceEqDiff, Nat.reduceAdd, J_add, J_sub, J_mul, J_neg, J_and, J_or, J_xor, J_shl, J_shr, J_div, J_i2b, J_i2l, J_l2i, J_lcm, J_max, J_min, J_nab, J_nao, rdA, rdF, rdL, wA_fold, wF_fold, wL_fold, wC_fold]
  refine ⟨(ls256 C_h), ?_⟩
  exact w
-- OutwardDoorsModel.reckons(III)J at 8
set_option maxRecDepth 20000 in
set_option maxHeartbeats 4000000 in
theorem r239_8 {X : Cst} {d : Nat} {x1 : Int} {x2 : Int} {x3 : Int} {x4 : Int} {l5 : Option Value} {l6 : Option Value} {l7 : Option Value} {l8 : Option Value} {l9 : Option Value} {l10 : Option Value} {h : AH} {Q : Post} (C_h : Lay h) (hd : 1 ≤ d)
  (w : (-2147483648 ≤ x4 ∧ x4 < 2147483648) ∧ (-2147483648 ≤ x3 ∧ x3 < 2147483648) ∧ ((x3 ≤ x4 → (0 ≤ fI h 256 18 - 1 ∧ fI h 256 18 - 1 < 64) ∧ Q (some (.long (aL h 264 (fI h 256 18 - 1)))) (wF h 256 18 (fI h 256 18 - 1))) ∧ (¬ x3 ≤ x4 → (0 ≤ (400 * x1) + x4 ∧ (400 * x1) + x4 < 2400) ∧ ((¬ iand (aI h 258 ((400 * x1) + x4)) 15 = 0 → ((¬ iand (aI h 258 ((400 * x1) + x4)) 15 = 1 → ((¬ iand (aI h 258 ((400 * x1) + x4)) 15 = 11 → (0 ≤ fI h 256 18 - 1 ∧ fI h 256 18 - 1 < 64) ∧ (0 ≤ fI (wF h 256 18 (fI h 256 18 - 1)) 256 18 - 1 ∧ fI (wF h 256 18 (fI h 256 18 - 1)) 256 18 - 1 < 64) ∧ (-2147483648 ≤ (iand (aI h 258 ((400 * x1) + x4)) 15) ∧ (iand (aI h 258 ((400 * x1) + x4)) 15) < 2147483648) ∧ (0 ≤ fI (wF (wF h 256 18 (fI h 256 18 - 1)) 256 18 (fI (wF h 256 18 (fI h 256 18 - 1)) 256 18 - 1)) 256 18 ∧ fI (wF (wF h 256 18 (fI h 256 18 - 1)) 256 18 (fI (wF h 256 18 (fI h 256 18 - 1)) 256 18 - 1)) 256 18 < 64) ∧ Ex X PG (d + 1) 239 8 [some (.ref 256), some (.int (J x1)), some (.int (J x2)), some (.int (J x3)), some (.int (J (x4 + 1))), some (.int (J (iand (aI h 258 ((400 * x1) + x4)) 15))), some (.int (J (shr (aI h 258 ((400 * x1) + x4)) (iand 4 31)))), some (.long (aL h 264 (fI h 256 18 - 1))), none, some (.long (aL h 264 (fI (wF h 256 18 (fI h 256 18 - 1)) 256 18 - 1))), none] [] (wF (wAL (wF (wF h 256 18 (fI h 256 18 - 1)) 256 18 (fI (wF h 256 18 (fI h 256 18 - 1)) 256 18 - 1)) 264 (fI (wF (wF h 256 18 (fI h 256 18 - 1)) 256 18 (fI (wF h 256 18 (fI h 256 18 - 1)) 256 18 - 1)) 256 18) (opL (iand (aI h 258 ((400 * x1) + x4)) 15) (aL h 264 (fI (wF h 256 18 (fI h 256 18 - 1)) 256 18 - 1)) (aL h 264 (fI h 256 18 - 1)))) 256 18 (fI (wF (wF h 256 18 (fI h 256 18 - 1)) 256 18 (fI (wF h 256 18 (fI h 256 18 - 1)) 256 18 - 1)) 256 18 + 1)) Q) ∧ (iand (aI h 258 ((400 * x1) + x4)) 15 = 11 → (0 ≤ fI h 256 18 - 1 ∧ fI h 256 18 - 1 < 64) ∧ (0 ≤ fI (wF h 256 18 (fI h 256 18 - 1)) 256 18 ∧ fI (wF h 256 18 (fI h 256 18 - 1)) 256 18 < 64) ∧ Ex X PG (d + 1) 239 8 [some (.ref 256), some (.int (J x1)), some (.int (J x2)), some (.int (J x3)), some (.int (J (x4 + 1))), some (.int (J (iand (aI h 258 ((400 * x1) + x4)) 15))), some (.int (J (shr (aI h 258 ((400 * x1) + x4)) (iand 4 31)))), l7, l8, l9, l10] [] (wF (wAL (wF h 256 18 (fI h 256 18 - 1)) 264 (fI (wF h 256 18 (fI h 256 18 - 1)) 256 18) ((1 : Int64) - (aL h 264 (fI h 256 18 - 1)))) 256 18 (fI (wF h 256 18 (fI h 256 18 - 1)) 256 18 + 1)) Q))) ∧ (iand (aI h 258 ((400 * x1) + x4)) 15 = 1 → (0 ≤ shr (aI h 258 ((400 * x1) + x4)) (iand 4 31) ∧ shr (aI h 258 ((400 * x1) + x4)) (iand 4 31) < 12) ∧ (0 ≤ fI h 256 18 ∧ fI h 256 18 < 64) ∧ Ex X PG (d + 1) 239 8 [some (.ref 256), some (.int (J x1)), some (.int (J x2)), some (.int (J x3)), some (.int (J (x4 + 1))), some (.int (J (iand (aI h 258 ((400 * x1) + x4)) 15))), some (.int (J (shr (aI h 258 ((400 * x1) + x4)) (iand 4 31)))), l7, l8, l9, l10] [] (wF (wAL h 264 (fI h 256 18) (aL h 265 (shr (aI h 258 ((400 * x1) + x4)) (iand 4 31)))) 256 18 (fI h 256 18 + 1)) Q))) ∧ (iand (aI h 258 ((400 * x1) + x4)) 15 = 0 → (0 ≤ fI h 256 18 ∧ fI h 256 18 < 64) ∧ Ex X PG (d + 1) 239 8 [some (.ref 256), some (.int (J x1)), some (.int (J x2)), some (.int (J x3)), some (.int (J (x4 + 1))), some (.int (J (iand (aI h 258 ((400 * x1) + x4)) 15))), some (.int (J (shr (aI h 258 ((400 * x1) + x4)) (iand 4 31)))), l7, l8, l9, l10] [] (wF (wAL h 264 (fI h 256 18) (i2l (shr (aI h 258 ((400 * x1) + x4)) (iand 4 31)))) 256 18 (fI h 256 18 + 1)) Q))))) :
    Ex X PG (d + 1) 239 8 [some (.ref 256), some (.int (J x1)), some (.int (J x2)), some (.int (J x3)), some (.int (J x4)), l5, l6, l7, l8, l9, l10] [] h Q := by
  refine wpx_ok (cut := [8]) 47 d 239 8 _ _ _ _ ?_
  show (((J x3) ≤ (J x4) → hs h 256 = (0, 11) ∧ Ex X PG d 241 0 [some (.ref 256)] [] h (fun v5 h6 => ∃ r7, v5 = some (.long r7) ∧ Q (some (.long r7)) h6)) ∧ (¬ ((J x3) ≤ (J x4)) → hs h 256 = (0, 11) ∧ ∃ q9, hR h 256 3 = some q9 ∧ (hs h q9).1 = 1 ∧ ix (((J 400) * (J x1)) + (J x4)) (hs h q9).2 ∧ hs h 256 = (0, 11) ∧ ∃ q11, hR h 256 3 = some q11 ∧ (hs h q11).1 = 1 ∧ ix (((J 400) * (J x1)) + (J x4)) (hs h q11).2 ∧ ((¬ ((hI h q9 (Int32.toNatClampNeg (((J 400) * (J x1)) + (J x4)))) &&& (J 15)) = (J 0) → ((¬ ((hI h q9 (Int32.toNatClampNeg (((J 400) * (J x1)) + (J x4)))) &&& (J 15)) = (J 1) → ((¬ ((hI h q9 (Int32.toNatClampNeg (((J 400) * (J x1)) + (J x4)))) &&& (J 15)) = (J 11) → hs h 256 = (0, 11) ∧ Ex X PG d 241 0 [some (.ref 256)] [] h (fun v18 h19 => ∃ r20, v18 = some (.long r20) ∧ hs h19 256 = (0, 11) ∧ Ex X PG d 241 0 [some (.ref 256)] [] h19 (fun v22 h23 => ∃ r24, v22 = some (.long r24) ∧ Ex X PG d 242 0 [some (.int ((hI h q9 (Int32.toNatClampNeg (((J 400) * (J x1)) + (J x4)))) &&& (J 15))), some (.long r24), none, some (.long r20), none] [] h23 (fun v26 h27 => ∃ r28, v26 = some (.long r28) ∧ hs h27 256 = (0, 11) ∧ Ex X PG d 240 0 [some (.ref 256), some (.long r28), none] [] h27 (fun v30 h31 => v30 = none ∧ Ex X PG (d + 1) 239 8 [some (.ref 256), some (.int (J x1)), some (.int (J x2)), some (.int (J x3)), some (.int ((J x4) + (J 1))), some (.int ((hI h q9 (Int32.toNatClampNeg (((J 400) * (J x1)) + (J x4)))) &&& (J 15))), some (.int ((hI h q11 (Int32.toNatClampNeg (((J 400) * (J x1)) + (J x4)))) >>> ((J 4) &&& J 31))), some (.long r20), none, some (.long r24), none] [] h31 Q))))) ∧ (¬ (¬ ((hI h q9 (Int32.toNatClampNeg (((J 400) * (J x1)) + (J x4)))) &&& (J 15)) = (J 11)) → hs h 256 = (0, 11) ∧ Ex X PG d 241 0 [some (.ref 256)] [] h (fun v33 h34 => ∃ r35, v33 = some (.long r35) ∧ hs h34 256 = (0, 11) ∧ Ex X PG d 240 0 [some (.ref 256), some (.long ((1 : Int64) - r35)), none] [] h34 (fun v37 h38 => v37 = none ∧ Ex X PG (d + 1) 239 8 [some (.ref 256), some (.int (J x1)), some (.int (J x2)), some (.int (J x3)), some (.int ((J x4) + (J 1))), some (.int ((hI h q9 (Int32.toNatClampNeg (((J 400) * (J x1)) + (J x4)))) &&& (J 15))), some (.int ((hI h q11 (Int32.toNatClampNeg (((J 400) * (J x1)) + (J x4)))) >>> ((J 4) &&& J 31))), l7, l8, l9, l10] [] h38 Q))))) ∧ (¬ (¬ ((hI h q9 (Int32.toNatClampNeg (((J 400) * (J x1)) + (J x4)))) &&& (J 15)) = (J 1)) → hs h 256 = (0, 11) ∧ ∃ q40, hR h 256 19 = some q40 ∧ (hs h q40).1 = 2 ∧ ix ((hI h q11 (Int32.toNatClampNeg (((J 400) * (J x1)) + (J x4)))) >>> ((J 4) &&& J 31)) (hs h q40).2 ∧ hs h 256 = (0, 11) ∧ Ex X PG d 240 0 [some (.ref 256), some (.long (hL h q40 (Int32.toNatClampNeg ((hI h q11 (Int32.toNatClampNeg (((J 400) * (J x1)) + (J x4)))) >>> ((J 4) &&& J 31))))), none] [] h (fun v42 h43 => v42 = none ∧ Ex X PG (d + 1) 239 8 [some (.ref 256), some (.int (J x1)), some (.int (J x2)), some (.int (J x3)), some (.int ((J x4) + (J 1))), some (.int ((hI h q9 (Int32.toNatClampNeg (((J 400) * (J x1)) + (J x4)))) &&& (J 15))), some (.int ((hI h q11 (Int32.toNatClampNeg (((J 400) * (J x1)) + (J x4)))) >>> ((J 4) &&& J 31))), l7, l8, l9, l10] [] h43 Q)))) ∧ (¬ (¬ ((hI h q9 (Int32.toNatClampNeg (((J 400) * (J x1)) + (J x4)))) &&& (J 15)) = (J 0)) → hs h 256 = (0, 11) ∧ Ex X PG d 240 0 [some (.ref 256), some (.long (Int32.toInt64 ((hI h q11 (Int32.toNatClampNeg (((J 400) * (J x1)) + (J x4)))) >>> ((J 4) &&& J 31)))), none] [] h (fun v45 h46 => v45 = none ∧ Ex X PG (d + 1) 239 8 [some (.ref 256), some (.int (J x1)), some (.int (J x2)), some (.int (J x3)), some (.int ((J x4) + (J 1))), some (.int ((hI h q9 (Int32.toNatClampNeg (((J 400) * (J x1)) + (J x4)))) &&& (J 15))), some (.int ((hI h q11 (Int32.toNatClampNeg (((J 400) * (J x1)) + (J x4)))) >>> ((J 4) &&& J 31))), l7, l8, l9, l10] [] h46 Q)))))
  try simp only [aI_wAL, fI_wAL, aL_wA, aL_wF, aI_wA_ne, aI_wF_ne, fI_wA_ne, fI_wF_ne, fI_wF_nk, aL_wAL_ne, J_sameA, J_sameF, aL_same, Nat.add_left_cancel_iff, Nat.add_eq_left, Nat.left_eq_add, not_false_eq_true, Nat.reduceEqDiff, Nat.reduceAdd, J_add, J_sub, J_mul, J_neg, J_and, J_or, J_xor, J_shl, J_shr, J_div, J_i2b, J_i2l, J_l2i, J_lcm, J_max, J_min, J_nab, J_nao, rdA, rdF, rdL, wA_fold, wF_fold, wL_fold, wC_fold]
  obtain ⟨k3, w⟩ := w
  obtain ⟨k4, w⟩ := w
  refine ⟨fun c1 => ?_, fun c1 => ?_⟩
  · have t2 : x3 ≤ x4 := ((Jle k4 k3).mp c1)
    replace w := w.1 t2
    refine ⟨(ls256 C_h), ?_⟩
    obtain ⟨k8, w⟩ := w
    refine m241 (h := h)  C_h (by omega) k8 ?_
    refine ⟨_, rfl, ?_⟩
    try simp only [aI_wAL, fI_wAL, aL_wA, aL_wF, aI_wA_ne, aI_wF_ne, fI_wA_ne, fI_wF_ne, fI_wF_nk, aL_wAL_ne, J_sameA, J_sameF, aL_same, Nat.add_left_cancel_iff, Nat.add_eq_left, Nat.left_eq_add, not_false_eq_true, Nat.reduceEqDiff, Nat.reduceAdd, J_add, J_sub, J_mul, J_neg, J_and, J_or, J_xor, J_shl, J_shr, J_div, J_i2b, J_i2l, J_l2i, J_lcm, J_max, J_min, J_nab, J_nao, rdA, rdF, rdL, wA_fold, wF_fold, wL_fold, wC_fold]
    exact w
  · have t2 : ¬ x3 ≤ x4 := (fun e => c1 ((Jle k4 k3).mpr e))
    replace w := w.2 t2
    refine ⟨(ls256 C_h), _, (lr256_3 C_h), ?_⟩
    obtain ⟨k10, w⟩ := w
    refine ⟨congrArg Prod.fst (ls258 C_h), ixs (ls258 C_h) k10 (by decide), ?_⟩
    refine ⟨(ls256 C_h), _, (lr256_3 C_h), ?_⟩
    refine ⟨congrArg Prod.fst (ls258 C_h), ixs (ls258 C_h) k10 (by decide), ?_⟩
    refine ⟨fun c12 => ?_, fun c12 => ?_⟩
    · have t13 : ¬ iand (aI h 258 ((400 * x1) + x4)) 15 = 0 := (fun e => c12 ((Jeq (rg_toInt _) (by decide)).mpr e))
      replace w := w.1 t13
      refine ⟨fun c14 => ?_, fun c14 => ?_⟩
      · have t15 : ¬ iand (aI h 258 ((400 * x1) + x4)) 15 = 1 := (fun e => c14 ((Jeq (rg_toInt _) (by decide)).mpr e))
        replace w := w.1 t15
        refine ⟨fun c16 => ?_, fun c16 => ?_⟩
        · have t17 : ¬ iand (aI h 258 ((400 * x1) + x4)) 15 = 11 := (fun e => c16 ((Jeq (rg_toInt _) (by decide)).mpr e))
          replace w := w.1 t17
          refine ⟨(ls256 C_h), ?_⟩
          obtain ⟨k21, w⟩ := w
          refine m241 (h := h)  C_h (by omega) k21 ?_
          refine ⟨_, rfl, ?_⟩
          try simp only [aI_wAL, fI_wAL, aL_wA, aL_wF, aI_wA_ne, aI_wF_ne, fI_wA_ne, fI_wF_ne, fI_wF_nk, aL_wAL_ne, J_sameA, J_sameF, aL_same, Nat.add_left_cancel_iff, Nat.add_eq_left, Nat.left_eq_add, not_false_eq_true, Nat.reduceEqDiff, Nat.reduceAdd, J_add, J_sub, J_mul, J_neg, J_and, J_or, J_xor, J_shl, J_shr, J_div, J_i2b, J_i2l, J_l2i, J_lcm, J_max, J_min, J_nab, J_nao, rdA, rdF, rdL, wA_fold, wF_fold, wL_fold, wC_fold]
          refine ⟨(ls256 C_h), ?_⟩
          obtain ⟨k25, w⟩ := w
          refine m241 (h := wF h 256 18 (fI h 256 18 - 1))  C_h (by omega) (by first | exact k25 | (simp only [aI_wAL, fI_wAL, aL_wA, aL_wF, aI_wA_ne, aI_wF_ne, fI_wA_ne, fI_wF_ne, fI_wF_nk, aL_wAL_ne, Nat.add_left_cancel_iff, Nat.add_eq_left, Nat.left_eq_add, not_false_eq_true, Nat.reduceEqDiff]; exact k25)) ?_
          refine ⟨_, rfl, ?_⟩
          try simp only [aI_wAL, fI_wAL, aL_wA, aL_wF, aI_wA_ne, aI_wF_ne, fI_wA_ne, fI_wF_ne, fI_wF_nk, aL_wAL_ne, J_sameA, J_sameF, aL_same, Nat.add_left_cancel_iff, Nat.add_eq_left, Nat.left_eq_add, not_false_eq_true, Nat.reduceEqDiff, Nat.reduceAdd, J_add, J_sub, J_mul, J_neg, J_and, J_or, J_xor, J_shl, J_shr, J_div, J_i2b, J_i2l, J_l2i, J_lcm, J_max, J_min, J_nab, J_nao, rdA, rdF, rdL, wA_fold, wF_fold, wL_fold, wC_fold]
          obtain ⟨k29, w⟩ := w
          refine m242 (h := wF (wF h 256 18 (fI h 256 18 - 1)) 256 18 (fI (wF h 256 18 (fI h 256 18 - 1)) 256 18 - 1)) (o := (iand (aI h 258 ((400 * x1) + x4)) 15)) (x := (aL h 264 (fI (wF h 256 18 (fI h 256 18 - 1)) 256 18 - 1))) (y := (aL h 264 (fI h 256 18 - 1))) C_h (by omega) (by first | exact k29 | (simp only [aI_wAL, fI_wAL, aL_wA, aL_wF, aI_wA_ne, aI_wF_ne, fI_wA_ne, fI_wF_ne, fI_wF_nk, aL_wAL_ne, Nat.add_left_cancel_iff, Nat.add_eq_left, Nat.left_eq_add, not_false_eq_true, Nat.reduceEqDiff]; exact k29)) ?_
          refine ⟨_, rfl, ?_⟩
          try simp only [aI_wAL, fI_wAL, aL_wA, aL_wF, aI_wA_ne, aI_wF_ne, fI_wA_ne, fI_wF_ne, fI_wF_nk, aL_wAL_ne, J_sameA, J_sameF, aL_same, Nat.add_left_cancel_iff, Nat.add_eq_left, Nat.left_eq_add, not_false_eq_true, Nat.reduceEqDiff, Nat.reduceAdd, J_add, J_sub, J_mul, J_neg, J_and, J_or, J_xor, J_shl, J_shr, J_div, J_i2b, J_i2l, J_l2i, J_lcm, J_max, J_min, J_nab, J_nao, rdA, rdF, rdL, wA_fold, wF_fold, wL_fold, wC_fold]
          refine ⟨(ls256 C_h), ?_⟩
          obtain ⟨k32, w⟩ := w
          refine m240 (h := wF (wF h 256 18 (fI h 256 18 - 1)) 256 18 (fI (wF h 256 18 (fI h 256 18 - 1)) 256 18 - 1)) (v := (opL (iand (aI h 258 ((400 * x1) + x4)) 15) (aL h 264 (fI (wF h 256 18 (fI h 256 18 - 1)) 256 18 - 1)) (aL h 264 (fI h 256 18 - 1)))) C_h (by omega) (by first | exact k32 | (simp only [aI_wAL, fI_wAL, aL_wA, aL_wF, aI_wA_ne, aI_wF_ne, fI_wA_ne, fI_wF_ne, fI_wF_nk, aL_wAL_ne, Nat.add_left_cancel_iff, Nat.add_eq_left, Nat.left_eq_add, not_false_eq_true, Nat.reduceEqDiff]; exact k32)) ?_
          refine ⟨rfl, ?_⟩
          try simp only [aI_wAL, fI_wAL, aL_wA, aL_wF, aI_wA_ne, aI_wF_ne, fI_wA_ne, fI_wF_ne, fI_wF_nk, aL_wAL_ne, J_sameA, J_sameF, aL_same, Nat.add_left_cancel_iff, Nat.add_eq_left, Nat.left_eq_add, not_false_eq_true, Nat.reduceEqDiff, Nat.reduceAdd, J_add, J_sub, J_mul, J_neg, J_and, J_or, J_xor, J_shl, J_shr, J_div, J_i2b, J_i2l, J_l2i, J_lcm, J_max, J_min, J_nab, J_nao, rdA, rdF, rdL, wA_fold, wF_fold, wL_fold, wC_fold]
          exact w
        · have t17 : iand (aI h 258 ((400 * x1) + x4)) 15 = 11 := ((Jeq (rg_toInt _) (by decide)).mp (Classical.byContradiction c16))
          replace w := w.2 t17
          refine ⟨(ls256 C_h), ?_⟩
          obtain ⟨k36, w⟩ := w
          refine m241 (h := h)  C_h (by omega) k36 ?_
          refine ⟨_, rfl, ?_⟩
          try simp only [aI_wAL, fI_wAL, aL_wA, aL_wF, aI_wA_ne, aI_wF_ne, fI_wA_ne, fI_wF_ne, fI_wF_nk, aL_wAL_ne, J_sameA, J_sameF, aL_same, Nat.add_left_cancel_iff, Nat.add_eq_left, Nat.left_eq_add, not_false_eq_true, Nat.reduceEqDiff, Nat.reduceAdd, J_add, J_sub, J_mul, J_neg, J_and, J_or, J_xor, J_shl, J_shr, J_div, J_i2b, J_i2l, J_l2i, J_lcm, J_max, J_min, J_nab, J_nao, rdA, rdF, rdL, wA_fold, wF_fold, wL_fold, wC_fold]
          refine ⟨(ls256 C_h), ?_⟩
          obtain ⟨k39, w⟩ := w
          refine m240 (h := wF h 256 18 (fI h 256 18 - 1)) (v := ((1 : Int64) - (aL h 264 (fI h 256 18 - 1)))) C_h (by omega) (by first | exact k39 | (simp only [aI_wAL, fI_wAL, aL_wA, aL_wF, aI_wA_ne, aI_wF_ne, fI_wA_ne, fI_wF_ne, fI_wF_nk, aL_wAL_ne, Nat.add_left_cancel_iff, Nat.add_eq_left, Nat.left_eq_add, not_false_eq_true, Nat.reduceEqDiff]; exact k39)) ?_
          refine ⟨rfl, ?_⟩
          try simp only [aI_wAL, fI_wAL, aL_wA, aL_wF, aI_wA_ne, aI_wF_ne, fI_wA_ne, fI_wF_ne, fI_wF_nk, aL_wAL_ne, J_sameA, J_sameF, aL_same, Nat.add_left_cancel_iff, Nat.add_eq_left, Nat.left_eq_add, not_false_eq_true, Nat.reduceEqDiff, Nat.reduceAdd, J_add, J_sub, J_mul, J_neg, J_and, J_or, J_xor, J_shl, J_shr, J_div, J_i2b, J_i2l, J_l2i, J_lcm, J_max, J_min, J_nab, J_nao, rdA, rdF, rdL, wA_fold, wF_fold, wL_fold, wC_fold]
          exact w
      · have t15 : iand (aI h 258 ((400 * x1) + x4)) 15 = 1 := ((Jeq (rg_toInt _) (by decide)).mp (Classical.byContradiction c14))
        replace w := w.2 t15
        refine ⟨(ls256 C_h), _, (lr256_19 C_h), ?_⟩
        obtain ⟨k41, w⟩ := w
        refine ⟨congrArg Prod.fst (ls265 C_h), ixs (ls265 C_h) k41 (by decide), ?_⟩
        refine ⟨(ls256 C_h), ?_⟩
        obtain ⟨k44, w⟩ := w
        refine m240 (h := h) (v := (aL h 265 (shr (aI h 258 ((400 * x1) + x4)) (iand 4 31)))) C_h (by omega) k44 ?_
        refine ⟨rfl, ?_⟩
        try simp only [aI_wAL, fI_wAL, aL_wA, aL_wF, aI_wA_ne, aI_wF_ne, fI_wA_ne, fI_wF_ne, fI_wF_nk, aL_wAL_ne, J_sameA, J_sameF, aL_same, Nat.add_left_cancel_iff, Nat.add_eq_left, Nat.left_eq_add, not_false_eq_true, Nat.reduceEqDiff, Nat.reduceAdd, J_add, J_sub, J_mul, J_neg, J_and, J_or, J_xor, J_shl, J_shr, J_div, J_i2b, J_i2l, J_l2i, J_lcm, J_max, J_min, J_nab, J_nao, rdA, rdF, rdL, wA_fold, wF_fold, wL_fold, wC_fold]
        exact w
    · have t13 : iand (aI h 258 ((400 * x1) + x4)) 15 = 0 := ((Jeq (rg_toInt _) (by decide)).mp (Classical.byContradiction c12))
      replace w := w.2 t13
      refine ⟨(ls256 C_h), ?_⟩
      obtain ⟨k47, w⟩ := w
      refine m240 (h := h) (v := (i2l (shr (aI h 258 ((400 * x1) + x4)) (iand 4 31)))) C_h (by omega) k47 ?_
      refine ⟨rfl, ?_⟩
      try simp only [aI_wAL, fI_wAL, aL_wA, aL_wF, aI_wA_ne, aI_wF_ne, fI_wA_ne, fI_wF_ne, fI_wF_nk, aL_wAL_ne, J_sameA, J_sameF, aL_same, Nat.add_left_cancel_iff, Nat.add_eq_left, Nat.left_eq_add, not_false_eq_true, Nat.reduceEqDiff, Nat.reduceAdd, J_add, J_sub, J_mul, J_neg, J_and, J_or, J_xor, J_shl, J_shr, J_div, J_i2b, J_i2l, J_l2i, J_lcm, J_max, J_min, J_nab, J_nao, rdA, rdF, rdL, wA_fold, wF_fold, wL_fold, wC_fold]
      exact w
theorem q239_8 {X : Cst} {d : Nat} {t b e : Int} {op ar : Int → Int} {h0 : AH} {Q : Post} (C0 : Lay h0) (hd : 1 ≤ d) (ht : 0 ≤ t ∧ t < 6) (hb : 0 ≤ b) (he : e ≤ 400) (hc : CodeAt (aI h0 258) (400 * t) op ar b e)
    (k : ∀ h' v, Fr TS h0 h' → (∃ st, st = [v] ∧ st = ev op ar (aL h0 265) (e - b).toNat b []) → Q (some (.long v)) h') :
    ∀ (n : Nat) (i : Int) (h : AH) (st : List Int64) (s : List Bool) (T : Bool) (l5 l6 l7 l8 l9 l10 : Option Value), Fr TS h0 h → e - i = n → b ≤ i → fI h 256 18 = st.length → Stk (aL h 264) st → TV st s → tr op n i s = some [T] → s.length + nvc op n i ≤ 64 →
      ev op ar (aL h0 265) n i st = ev op ar (aL h0 265) (e - b).toNat b [] →
      Ex X PG (d + 1) 239 8 [some (.ref 256), some (.int (J t)), some (.int (J b)), some (.int (J e)), some (.int (J i)), l5, l6, l7, l8, l9, l10] [] h Q := by
  intro n
  induction n with
  | zero =>
    intro i h st s T l5 l6 l7 l8 l9 l10 F h1 h2 tp sk tv ht2 hl hev
    cases ht2
    match st, tv with
    | [v], tv =>
      refine r239_8 (F.C C0) hd ⟨by omega, by omega, fun c => ?_, fun c => absurd (by omega) c⟩
      rw [tp, show ((([v] : List Int64).length : Nat) : Int) - 1 = 0 from rfl]
      refine ⟨by decide, ?_⟩
      have s1 := sk.1
      rw [show ((([] : List Int64).length : Nat) : Int) = 0 from rfl] at s1
      rw [s1]
      exact k _ v (F.wF (Or.inr ⟨rfl, rfl⟩)) ⟨[v], rfl, hev⟩
  | succ n ih =>
    intro i h st s T l5 l6 l7 l8 l9 l10 F h1 h2 tp sk tv ht2 hl hev
    have ci := hc i h2 (by omega)
    have ei : aI h 258 (400 * t + i) = op i + 16 * ar i := by rw [F.a 258 (fun k z => by rcases z with z | z <;> omega)]; exact ci.1
    have wi : aL h 265 = aL h0 265 := F.l 265 (fun k z => by rcases z with z | z <;> omega)
    unfold tr at ht2
    cases e1 : tr1 (op i) s with
    | none => rw [e1] at ht2; cases ht2
    | some s' =>
      rw [e1] at ht2
      have ht2 : tr op n (i + 1) s' = some [T] := ht2
      have tv' : ∀ w, TV (ev1 (op i) (ar i) w st) s' := fun w => ev1_TV e1 tv
      have sl := tv.len
      have hev' : ev op ar (aL h0 265) n (i + 1) (ev1 (op i) (ar i) (aL h0 265) st) = ev op ar (aL h0 265) (e - b).toNat b [] := hev
      unfold nvc at hl
      have dv : iand (aI h 258 (400 * t + i)) 15 = op i := by rw [ei, iand_15 (by omega)]; omega
      have sv : shr (aI h 258 (400 * t + i)) (iand 4 31) = ar i := by rw [ei, shr_4 (by omega)]; omega
      refine r239_8 (F.C C0) hd ?_
      rw [dv, sv, tp]
      unfold tr1 at e1
      -- one more on the stack
      have pu : ∀ (h' : AH) (r : List Int64) (v : Int64) (l5 l6 l7 l8 l9 l10 : Option Value), Fr TS h0 h' → Stk (aL h' 264) r → (r.length : Int) < 64 → ev1 (op i) (ar i) (aL h0 265) st = v :: r → s'.length + nvc op n (i + 1) ≤ 64 →
          Ex X PG (d + 1) 239 8 [some (.ref 256), some (.int (J t)), some (.int (J b)), some (.int (J e)), some (.int (J (i + 1))), l5, l6, l7, l8, l9, l10] [] (wF (wAL h' 264 (r.length : Int) v) 256 18 ((r.length : Int) + 1)) Q := by
        intro h' r v l5 l6 l7 l8 l9 l10 F' sk' hr ee hl'
        refine ih (i + 1) _ (v :: r) s' T _ _ _ _ _ _ ((F'.wAL (Or.inl rfl)).wF (Or.inr ⟨rfl, rfl⟩)) (by omega) (by omega) ?_ ?_ ?_ ht2 hl' ?_
        · rw [fI_wF_eq (by omega), List.length_cons]; omega
        · rw [aL_wF, aL_wAL]
          exact ⟨uuL_eq _ _ _, Stk_up (Int.le_refl _) (by omega) sk'⟩
        · rw [← ee]; exact tv' _
        · rw [← ee]; exact hev'
      refine ⟨by omega, by omega, fun c => absurd c (by omega), fun c => ⟨by omega, fun c0 => ⟨fun c1 => ⟨fun c11 => ?_, fun c11 => ?_⟩, fun c1 => ?_⟩, fun c0 => ?_⟩⟩
      · -- two taken, one put
        have two : ∃ y x r, st = y :: x :: r ∧ s'.length = r.length + 1 := by
          rw [if_neg (fun z => z.elim c0 c1), if_neg c11] at e1
          by_cases c12 : op i = 12 ∨ op i = 13
          · rw [if_pos c12] at e1
            match s, st, tv, e1 with
            | true :: true :: r, y :: x :: q, v, h => cases h; exact ⟨y, x, q, rfl, by rw [List.length_cons, v.2.2.len]⟩
          · rw [if_neg c12] at e1
            by_cases c6 : 6 ≤ op i ∧ op i ≤ 10
            · rw [if_pos c6] at e1
              match s, st, tv, e1 with
              | false :: false :: r, y :: x :: q, v, h => cases h; exact ⟨y, x, q, rfl, by rw [List.length_cons, v.2.2.len]⟩
            · rw [if_neg c6] at e1
              by_cases c2 : (2 ≤ op i ∧ op i ≤ 5) ∨ op i = 14
              · rw [if_pos c2] at e1
                match s, st, tv, e1 with
                | false :: false :: r, y :: x :: q, v, h => cases h; exact ⟨y, x, q, rfl, by rw [List.length_cons, v.2.2.len]⟩
              · rw [if_neg c2] at e1; cases e1
        obtain ⟨y, x, r, rfl, sl'⟩ := two
        rw [List.length_cons, List.length_cons] at sl
        have s1 : aL h 264 ((r.length : Int) + 1) = y := by have := sk.1; rw [List.length_cons] at this; exact this
        have s2 : aL h 264 (r.length : Int) = x := sk.2.1
        have l1 : (((y :: x :: r).length : Nat) : Int) - 1 = (r.length : Int) + 1 := by rw [List.length_cons, List.length_cons]; omega
        rw [l1, fI_wF_eq (by omega), show (r.length : Int) + 1 - 1 = r.length by omega, s1, s2]
        refine ⟨by omega, by omega, by omega, ?_⟩
        rw [fI_wF_eq (by omega)]
        refine ⟨by omega, ?_⟩
        refine pu _ r (opL (op i) x y) _ _ _ _ _ _ ((F.wF (Or.inr ⟨rfl, rfl⟩)).wF (Or.inr ⟨rfl, rfl⟩)) sk.2.2 (by omega) ?_ ?_
        · unfold ev1; rw [if_neg c0, if_neg c1, if_neg c11]
        · rw [if_neg (fun z => z.elim c0 c1)] at hl; omega
      · -- not
        have two : ∃ x r, st = x :: r ∧ s'.length = r.length + 1 := by
          rw [if_neg (fun z => z.elim c0 c1), if_pos c11] at e1
          match s, st, tv, e1 with
          | true :: r, x :: q, v, h => cases h; exact ⟨x, q, rfl, by rw [List.length_cons, v.2.len]⟩
        obtain ⟨x, r, rfl, sl'⟩ := two
        rw [List.length_cons] at sl
        have s1 : aL h 264 (r.length : Int) = x := sk.1
        have l1 : (((x :: r).length : Nat) : Int) - 1 = (r.length : Int) := by rw [List.length_cons]; omega
        rw [l1, fI_wF_eq (by omega), s1]
        refine ⟨by omega, by omega, ?_⟩
        refine pu _ r (1 - x) _ _ _ _ _ _ (F.wF (Or.inr ⟨rfl, rfl⟩)) sk.2 (by omega) ?_ ?_
        · unfold ev1; rw [if_neg c0, if_neg c1, if_pos c11]
        · rw [if_neg (fun z => z.elim c0 c1)] at hl; omega
      · rw [if_pos (Or.inr c1)] at e1
        cases e1
        have a12 := ci.2.2.2 c1
        rw [if_pos (Or.inr c1)] at hl
        refine ⟨by omega, by omega, ?_⟩
        refine pu _ st (aL h 265 (ar i)) _ _ _ _ _ _ F sk (by omega) ?_ (by rw [List.length_cons]; omega)
        unfold ev1; rw [if_neg c0, if_pos c1, wi]
      · rw [if_pos (Or.inl c0)] at e1
        cases e1
        rw [if_pos (Or.inl c0)] at hl
        refine ⟨by omega, ?_⟩
        refine pu _ st (i2l (ar i)) _ _ _ _ _ _ F sk (by omega) ?_ (by rw [List.length_cons]; omega)
        unfold ev1; rw [if_pos c0]
theorem m239 {X : Cst} {d : Nat} {t b e : Int} {op ar : Int → Int} {T : Bool} {h : AH} {Q : Post} (C : Lay h) (hd : 2 ≤ d) (ht : 0 ≤ t ∧ t < 6) (hb : 0 ≤ b) (hbe : b ≤ e) (he : e ≤ 400) (hc : CodeAt (aI h 258) (400 * t) op ar b e) (hT : tr op (e - b).toNat b [] = some [T]) (hn : nvc op (e - b).toNat b ≤ 64)
    (k : ∀ h' v, Fr TS h h' → ev op ar (aL h 265) (e - b).toNat b [] = [v] → Q (some (.long v)) h') : Ex X PG d 239 0 [some (.ref 256), some (.int (J t)), some (.int (J b)), some (.int (J e)), none, none, none, none, none, none, none] [] h Q := by
  obtain ⟨d, rfl⟩ : ∃ e, d = e + 1 := ⟨d - 1, by omega⟩
  refine r239_0 C ?_
  have F1 : Fr TS h (wF h 256 18 0) := Fr.rf.wF (Or.inr ⟨rfl, rfl⟩)
  refine q239_8 (op := op) (ar := ar) C (by omega) ht hb he hc (fun h' v F ⟨st, e1, e2⟩ => k h' v F (by rw [← e2, e1])) (e - b).toNat b _ [] [] T _ _ _ _ _ _ F1 (by omega) (Int.le_refl _) ?_ trivial trivial hT ?_ rfl
  · rw [fI_wF_eq (by decide)]; rfl
  · show 0 + _ ≤ 64; omega
