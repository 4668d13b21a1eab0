/-! RULES as the class reads them: values. -/
def wNs (k : Int) : Nat := if k = 0 then 5 else if k = 1 then 7 else if k = 2 then 1 else if k = 3 then 8 else if k = 4 then 9 else if k = 5 then 10 else if k = 6 then 11 else if k = 7 then 4 else if k = 8 then 12 else if k = 9 then 13 else if k = 10 then 14 else 15
-- OutwardDoors$Rule.wordName(I)Ljava/lang/String; at 0
set_option maxRecDepth 20000 in
set_option maxHeartbeats 4000000 in
theorem r62_0 {X : Cst} {d : Nat} {x0 : Int} {h : AH} {Q : Post} (C_h : Lay h)
  (w : (-2147483648 ≤ x0 ∧ x0 < 2147483648) ∧ ((x0 = 0 → Q (some (.retAddr 5)) h) ∧ (¬ x0 = 0 → ((x0 = 1 → Q (some (.retAddr 7)) h) ∧ (¬ x0 = 1 → ((x0 = 2 → Q (some (.retAddr 1)) h) ∧ (¬ x0 = 2 → ((x0 = 3 → Q (some (.retAddr 8)) h) ∧ (¬ x0 = 3 → ((x0 = 4 → Q (some (.retAddr 9)) h) ∧ (¬ x0 = 4 → ((x0 = 5 → Q (some (.retAddr 10)) h) ∧ (¬ x0 = 5 → ((x0 = 6 → Q (some (.retAddr 11)) h) ∧ (¬ x0 = 6 → ((x0 = 7 → Q (some (.retAddr 4)) h) ∧ (¬ x0 = 7 → ((x0 = 8 → Q (some (.retAddr 12)) h) ∧ (¬ x0 = 8 → ((x0 = 9 → Q (some (.retAddr 13)) h) ∧ (¬ x0 = 9 → ((x0 = 10 → Q (some (.retAddr 14)) h) ∧ (¬ x0 = 10 → Q (some (.retAddr 15)) h))))))))))))))))))))))) :
    Ex X PG (d + 1) 62 0 [some (.int (J x0))] [] h Q := by
  refine wpx_ok (cut := []) 4 d 62 0 _ _ _ _ ?_
  show (((J x0) = J 0 → Q (some (.retAddr 5)) h) ∧ (¬ (J x0) = J 0 → (((J x0) = J 1 → Q (some (.retAddr 7)) h) ∧ (¬ (J x0) = J 1 → (((J x0) = J 2 → Q (some (.retAddr 1)) h) ∧ (¬ (J x0) = J 2 → (((J x0) = J 3 → Q (some (.retAddr 8)) h) ∧ (¬ (J x0) = J 3 → (((J x0) = J 4 → Q (some (.retAddr 9)) h) ∧ (¬ (J x0) = J 4 → (((J x0) = J 5 → Q (some (.retAddr 10)) h) ∧ (¬ (J x0) = J 5 → (((J x0) = J 6 → Q (some (.retAddr 11)) h) ∧ (¬ (J x0) = J 6 → (((J x0) = J 7 → Q (some (.retAddr 4)) h) ∧ (¬ (J x0) = J 7 → (((J x0) = J 8 → Q (some (.retAddr 12)) h) ∧ (¬ (J x0) = J 8 → (((J x0) = J 9 → Q (some (.retAddr 13)) h) ∧ (¬ (J x0) = J 9 → (((J x0) = J 10 → Q (some (.retAddr 14)) h) ∧ (¬ (J x0) = J 10 → Q (some (.retAddr 15)) h))))))))))))))))))))))
  try simp only [aI_wAL, fI_wAL, aL_wA, aL_wF, aI_wA_ne, aI_wF_ne, fI_wA_ne, fI_wF_ne, fI_wF_nk, aL_wAL_ne, J_sameA, J_sameF, aL_same, Nat.add_left_cancel_iff, Nat.add_eq_left, Nat.left_eq_add, not_false_eq_true, Nat.reduceEqDiff, Nat.reduceAdd, J_add, J_sub, J_mul, J_neg, J_and, J_or, J_xor, J_shl, J_shr, J_div, J_i2b, J_i2l, J_l2i, J_lcm, J_max, J_min, J_nab, J_nao, rdA, rdF, rdL, wA_fold, wF_fold, wL_fold, wC_fold]
  obtain ⟨k1, w⟩ := w
  refine ⟨fun c2 => ?_, fun c2 => ?_⟩
  · replace w := w.1 ((Jeq k1 (by decide)).mp c2)
    exact w
  · replace w := w.2 (fun e => c2 ((Jeq k1 (by decide)).mpr e))
    refine ⟨fun c3 => ?_, fun c3 => ?_⟩
    · replace w := w.1 ((Jeq k1 (by decide)).mp c3)
      exact w
    · replace w := w.2 (fun e => c3 ((Jeq k1 (by decide)).mpr e))
      refine ⟨fun c4 => ?_, fun c4 => ?_⟩
      · replace w := w.1 ((Jeq k1 (by decide)).mp c4)
        exact w
      · replace w := w.2 (fun e => c4 ((Jeq k1 (by decide)).mpr e))
        refine ⟨fun c5 => ?_, fun c5 => ?_⟩
        · replace w := w.1 ((Jeq k1 (by decide)).mp c5)
          exact w
        · replace w := w.2 (fun e => c5 ((Jeq k1 (by decide)).mpr e))
          refine ⟨fun c6 => ?_, fun c6 => ?_⟩
          · replace w := w.1 ((Jeq k1 (by decide)).mp c6)
            exact w
          · replace w := w.2 (fun e => c6 ((Jeq k1 (by decide)).mpr e))
            refine ⟨fun c7 => ?_, fun c7 => ?_⟩
            · replace w := w.1 ((Jeq k1 (by decide)).mp c7)
              exact w
            · replace w := w.2 (fun e => c7 ((Jeq k1 (by decide)).mpr e))
              refine ⟨fun c8 => ?_, fun c8 => ?_⟩
              · replace w := w.1 ((Jeq k1 (by decide)).mp c8)
                exact w
              · replace w := w.2 (fun e => c8 ((Jeq k1 (by decide)).mpr e))
                refine ⟨fun c9 => ?_, fun c9 => ?_⟩
                · replace w := w.1 ((Jeq k1 (by decide)).mp c9)
                  exact w
                · replace w := w.2 (fun e => c9 ((Jeq k1 (by decide)).mpr e))
                  refine ⟨fun c10 => ?_, fun c10 => ?_⟩
                  · replace w := w.1 ((Jeq k1 (by decide)).mp c10)
                    exact w
                  · replace w := w.2 (fun e => c10 ((Jeq k1 (by decide)).mpr e))
                    refine ⟨fun c11 => ?_, fun c11 => ?_⟩
                    · replace w := w.1 ((Jeq k1 (by decide)).mp c11)
                      exact w
                    · replace w := w.2 (fun e => c11 ((Jeq k1 (by decide)).mpr e))
                      refine ⟨fun c12 => ?_, fun c12 => ?_⟩
                      · replace w := w.1 ((Jeq k1 (by decide)).mp c12)
                        exact w
                      · replace w := w.2 (fun e => c12 ((Jeq k1 (by decide)).mpr e))
                        exact w
theorem m62 {X : Cst} {d : Nat} {x : Int} {h : AH} {Q : Post} (C : Lay h) (hd : 1 ≤ d) (hx : 0 ≤ x ∧ x < 12) (k : Q (some (.retAddr (wNs x))) h) : Ex X PG d 62 0 [some (.int (J x))] [] h Q := by
  obtain ⟨d, rfl⟩ : ∃ e, d = e + 1 := ⟨d - 1, by omega⟩
  unfold wNs at k
  refine r62_0 C ⟨by omega, fun c0 => ?_, fun c0 => ⟨fun c1 => ?_, fun c1 => ⟨fun c2 => ?_, fun c2 => ⟨fun c3 => ?_, fun c3 => ⟨fun c4 => ?_, fun c4 => ⟨fun c5 => ?_, fun c5 => ⟨fun c6 => ?_, fun c6 => ⟨fun c7 => ?_, fun c7 => ⟨fun c8 => ?_, fun c8 => ⟨fun c9 => ?_, fun c9 => ⟨fun c10 => ?_, fun c10 => ?_⟩⟩⟩⟩⟩⟩⟩⟩⟩⟩⟩
  · rw [if_pos c0] at k; exact k
  · rw [if_neg c0, if_pos c1] at k; exact k
  · rw [if_neg c0, if_neg c1, if_pos c2] at k; exact k
  · rw [if_neg c0, if_neg c1, if_neg c2, if_pos c3] at k; exact k
  · rw [if_neg c0, if_neg c1, if_neg c2, if_neg c3, if_pos c4] at k; exact k
  · rw [if_neg c0, if_neg c1, if_neg c2, if_neg c3, if_neg c4, if_pos c5] at k; exact k
  · rw [if_neg c0, if_neg c1, if_neg c2, if_neg c3, if_neg c4, if_neg c5, if_pos c6] at k; exact k
  · rw [if_neg c0, if_neg c1, if_neg c2, if_neg c3, if_neg c4, if_neg c5, if_neg c6, if_pos c7] at k; exact k
  · rw [if_neg c0, if_neg c1, if_neg c2, if_neg c3, if_neg c4, if_neg c5, if_neg c6, if_neg c7, if_pos c8] at k; exact k
  · rw [if_neg c0, if_neg c1, if_neg c2, if_neg c3, if_neg c4, if_neg c5, if_neg c6, if_neg c7, if_neg c8, if_pos c9] at k; exact k
  · rw [if_neg c0, if_neg c1, if_neg c2, if_neg c3, if_neg c4, if_neg c5, if_neg c6, if_neg c7, if_neg c8, if_neg c9, if_pos c10] at k; exact k
  · rw [if_neg c0, if_neg c1, if_neg c2, if_neg c3, if_neg c4, if_neg c5, if_neg c6, if_neg c7, if_neg c8, if_neg c9, if_neg c10] at k; exact k
theorem wS_di : ∀ s, s < 20 → ∀ t, t < 20 → wSc s = wSc t → s = t := by decide
theorem wdx_k {tp : Int → Int} {L j k : Int} (hk : 0 ≤ k ∧ k < 12) : wc tp L j = wSc (wNs k) ↔ wdx tp L j = k := by
  have e : k = 0 ∨ k = 1 ∨ k = 2 ∨ k = 3 ∨ k = 4 ∨ k = 5 ∨ k = 6 ∨ k = 7 ∨ k = 8 ∨ k = 9 ∨ k = 10 ∨ k = 11 := by omega
  have ne : ∀ s t, s < 20 → t < 20 → ¬ s = t → wc tp L j = wSc s → ¬ wc tp L j = wSc t := fun s t hs ht n a b => n (wS_di s hs t ht (a.symm.trans b))
  constructor
  · intro a
    unfold wdx
    rcases e with rfl | rfl | rfl | rfl | rfl | rfl | rfl | rfl | rfl | rfl | rfl | rfl
    · have a : wc tp L j = wSc 5 := a
      rw [pI_pos a]
    · have a : wc tp L j = wSc 7 := a
      rw [pI_neg (ne 7 5 (by decide) (by decide) (by decide) a), pI_pos a]
    · have a : wc tp L j = wSc 1 := a
      rw [pI_neg (ne 1 5 (by decide) (by decide) (by decide) a), pI_neg (ne 1 7 (by decide) (by decide) (by decide) a), pI_pos a]
    · have a : wc tp L j = wSc 8 := a
      rw [pI_neg (ne 8 5 (by decide) (by decide) (by decide) a), pI_neg (ne 8 7 (by decide) (by decide) (by decide) a), pI_neg (ne 8 1 (by decide) (by decide) (by decide) a), pI_pos a]
    · have a : wc tp L j = wSc 9 := a
      rw [pI_neg (ne 9 5 (by decide) (by decide) (by decide) a), pI_neg (ne 9 7 (by decide) (by decide) (by decide) a), pI_neg (ne 9 1 (by decide) (by decide) (by decide) a), pI_neg (ne 9 8 (by decide) (by decide) (by decide) a), pI_pos a]
    · have a : wc tp L j = wSc 10 := a
      rw [pI_neg (ne 10 5 (by decide) (by decide) (by decide) a), pI_neg (ne 10 7 (by decide) (by decide) (by decide) a), pI_neg (ne 10 1 (by decide) (by decide) (by decide) a), pI_neg (ne 10 8 (by decide) (by decide) (by decide) a), pI_neg (ne 10 9 (by decide) (by decide) (by decide) a), pI_pos a]
    · have a : wc tp L j = wSc 11 := a
      rw [pI_neg (ne 11 5 (by decide) (by decide) (by decide) a), pI_neg (ne 11 7 (by decide) (by decide) (by decide) a), pI_neg (ne 11 1 (by decide) (by decide) (by decide) a), pI_neg (ne 11 8 (by decide) (by decide) (by decide) a), pI_neg (ne 11 9 (by decide) (by decide) (by decide) a), pI_neg (ne 11 10 (by decide) (by decide) (by decide) a), pI_pos a]
    · have a : wc tp L j = wSc 4 := a
      rw [pI_neg (ne 4 5 (by decide) (by decide) (by decide) a), pI_neg (ne 4 7 (by decide) (by decide) (by decide) a), pI_neg (ne 4 1 (by decide) (by decide) (by decide) a), pI_neg (ne 4 8 (by decide) (by decide) (by decide) a), pI_neg (ne 4 9 (by decide) (by decide) (by decide) a), pI_neg (ne 4 10 (by decide) (by decide) (by decide) a), pI_neg (ne 4 11 (by decide) (by decide) (by decide) a), pI_pos a]
    · have a : wc tp L j = wSc 12 := a
      rw [pI_neg (ne 12 5 (by decide) (by decide) (by decide) a), pI_neg (ne 12 7 (by decide) (by decide) (by decide) a), pI_neg (ne 12 1 (by decide) (by decide) (by decide) a), pI_neg (ne 12 8 (by decide) (by decide) (by decide) a), pI_neg (ne 12 9 (by decide) (by decide) (by decide) a), pI_neg (ne 12 10 (by decide) (by decide) (by decide) a), pI_neg (ne 12 11 (by decide) (by decide) (by decide) a), pI_neg (ne 12 4 (by decide) (by decide) (by decide) a), pI_pos a]
    · have a : wc tp L j = wSc 13 := a
      rw [pI_neg (ne 13 5 (by decide) (by decide) (by decide) a), pI_neg (ne 13 7 (by decide) (by decide) (by decide) a), pI_neg (ne 13 1 (by decide) (by decide) (by decide) a), pI_neg (ne 13 8 (by decide) (by decide) (by decide) a), pI_neg (ne 13 9 (by decide) (by decide) (by decide) a), pI_neg (ne 13 10 (by decide) (by decide) (by decide) a), pI_neg (ne 13 11 (by decide) (by decide) (by decide) a), pI_neg (ne 13 4 (by decide) (by decide) (by decide) a), pI_neg (ne 13 12 (by decide) (by decide) (by decide) a), pI_pos a]
    · have a : wc tp L j = wSc 14 := a
      rw [pI_neg (ne 14 5 (by decide) (by decide) (by decide) a), pI_neg (ne 14 7 (by decide) (by decide) (by decide) a), pI_neg (ne 14 1 (by decide) (by decide) (by decide) a), pI_neg (ne 14 8 (by decide) (by decide) (by decide) a), pI_neg (ne 14 9 (by decide) (by decide) (by decide) a), pI_neg (ne 14 10 (by decide) (by decide) (by decide) a), pI_neg (ne 14 11 (by decide) (by decide) (by decide) a), pI_neg (ne 14 4 (by decide) (by decide) (by decide) a), pI_neg (ne 14 12 (by decide) (by decide) (by decide) a), pI_neg (ne 14 13 (by decide) (by decide) (by decide) a), pI_pos a]
    · have a : wc tp L j = wSc 15 := a
      rw [pI_neg (ne 15 5 (by decide) (by decide) (by decide) a), pI_neg (ne 15 7 (by decide) (by decide) (by decide) a), pI_neg (ne 15 1 (by decide) (by decide) (by decide) a), pI_neg (ne 15 8 (by decide) (by decide) (by decide) a), pI_neg (ne 15 9 (by decide) (by decide) (by decide) a), pI_neg (ne 15 10 (by decide) (by decide) (by decide) a), pI_neg (ne 15 11 (by decide) (by decide) (by decide) a), pI_neg (ne 15 4 (by decide) (by decide) (by decide) a), pI_neg (ne 15 12 (by decide) (by decide) (by decide) a), pI_neg (ne 15 13 (by decide) (by decide) (by decide) a), pI_neg (ne 15 14 (by decide) (by decide) (by decide) a), pI_pos a]
  · intro a
    have cs : ∀ {P : Prop} {x y z : Int}, pI P x y = z → (P ∧ x = z) ∨ (¬ P ∧ y = z) := by
      intro P x y z q
      by_cases c : P
      · rw [pI_pos c] at q; exact Or.inl ⟨c, q⟩
      · rw [pI_neg c] at q; exact Or.inr ⟨c, q⟩
    unfold wdx at a
    rcases cs a with ⟨b, q⟩ | ⟨-, a⟩
    · rw [← q]; exact b
    rcases cs a with ⟨b, q⟩ | ⟨-, a⟩
    · rw [← q]; exact b
    rcases cs a with ⟨b, q⟩ | ⟨-, a⟩
    · rw [← q]; exact b
    rcases cs a with ⟨b, q⟩ | ⟨-, a⟩
    · rw [← q]; exact b
    rcases cs a with ⟨b, q⟩ | ⟨-, a⟩
    · rw [← q]; exact b
    rcases cs a with ⟨b, q⟩ | ⟨-, a⟩
    · rw [← q]; exact b
    rcases cs a with ⟨b, q⟩ | ⟨-, a⟩
    · rw [← q]; exact b
    rcases cs a with ⟨b, q⟩ | ⟨-, a⟩
    · rw [← q]; exact b
    rcases cs a with ⟨b, q⟩ | ⟨-, a⟩
    · rw [← q]; exact b
    rcases cs a with ⟨b, q⟩ | ⟨-, a⟩
    · rw [← q]; exact b
    rcases cs a with ⟨b, q⟩ | ⟨-, a⟩
    · rw [← q]; exact b
    rcases cs a with ⟨b, q⟩ | ⟨-, a⟩
    · rw [← q]; exact b
    omega
theorem wNs_b (k : Int) : wNs k < 20 := by unfold wNs; (repeat' split) <;> decide
-- OutwardDoors$RuleReader.readValue()V at 0
set_option maxRecDepth 20000 in
set_option maxHeartbeats 4000000 in
theorem r61_0 {X : Cst} {d : Nat} {ru : Nat} {h : AH} {Q : Post} (C_h : Lay h) (K_h_0 : RuleAt h ru) (P_h : hR h 46 1 = some ru)
  (w : ((¬ fI h 1 2 = 1 → Ex X PG (d + 1) 61 21 [some (.ref 46), some (.int (J 0)), some (.int (J (-1))), some (.int (J 0))] [] h Q) ∧ (fI h 1 2 = 1 → Ex X PG (d + 1) 61 21 [some (.ref 46), some (.int (J 1)), some (.int (J (-1))), some (.int (J 0))] [] h Q))) :
    Ex X PG (d + 1) 61 0 [some (.ref 46), none, none, none] [] h Q := by
  refine wpx_ok (cut := [21]) 12 d 61 0 _ _ _ _ ?_
  show hs h 46 = (0, 5) ∧ ∃ q1, hR h 46 0 = some q1 ∧ hs h q1 = (0, 8) ∧ ((¬ (hF h q1 2) = (J 1) → Ex X PG (d + 1) 61 21 [some (.ref 46), some (.int (J 0)), some (.int (J (-1))), some (.int (J 0))] [] h Q) ∧ (¬ (¬ (hF h q1 2) = (J 1)) → Ex X PG (d + 1) 61 21 [some (.ref 46), some (.int (J 1)), some (.int (J (-1))), some (.int (J 0))] [] h Q))
  try simp only [aI_wAL, fI_wAL, aL_wA, aL_wF, aI_wA_ne, aI_wF_ne, fI_wA_ne, fI_wF_ne, fI_wF_nk, aL_wAL_ne, J_sameA, J_sameF, aL_same, Nat.add_left_cancel_iff, Nat.add_eq_left, Nat.left_eq_add, not_false_eq_true, Nat.reduceEqDiff, Nat.reduceAdd, J_add, J_sub, J_mul, J_neg, J_and, J_or, J_xor, J_shl, J_shr, J_div, J_i2b, J_i2l, J_l2i, J_lcm, J_max, J_min, J_nab, J_nao, rdA, rdF, rdL, wA_fold, wF_fold, wL_fold, wC_fold]
  refine ⟨(ls46 C_h), _, (lr46_0 C_h), ?_⟩
  refine ⟨(ls1 C_h), ?_⟩
  refine ⟨fun c2 => ?_, fun c2 => ?_⟩
  · have t3 : ¬ fI h 1 2 = 1 := (fun e => c2 ((Jeq (rg_toInt _) (by decide)).mpr e))
    replace w := w.1 t3
    exact w
  · have t3 : fI h 1 2 = 1 := ((Jeq (rg_toInt _) (by decide)).mp (Classical.byContradiction c2))
    replace w := w.2 t3
    exact w
-- OutwardDoors$RuleReader.readValue()V at 21
set_option maxRecDepth 20000 in
set_option maxHeartbeats 4000000 in
theorem r61_21 {X : Cst} {d : Nat} {x1 : Int} {x2 : Int} {x3 : Int} {ru : Nat} {h : AH} {Q : Post} (C_h : Lay h) (K_h_0 : RuleAt h ru) (P_h : hR h 46 1 = some ru)
  (w : (-2147483648 ≤ x3 ∧ x3 < 2147483648) ∧ ((12 ≤ x3 → (-2147483648 ≤ x1 ∧ x1 < 2147483648) ∧ ((¬ x1 = 0 → ((¬ fI h 1 5 = (-1) → ((fI h 46 2 < 60 → ((¬ fI h 1 6 = 0 → Q none h) ∧ (fI h 1 6 = 0 → Ex X PG d 9 0 [some (.ref ru), some (.int (J 1)), some (.int (J (fI h 1 5)))] [] (wF h 46 2 ((fI h 46 2) + 1)) (fun v93 h94 => v93 = none ∧ SH (wF h 46 2 ((fI h 46 2) + 1)) h94 ∧ Ex X PG d 24 0 [some (.ref 1), none] [] h94 (fun v96 h97 => v96 = none ∧ SH h94 h97 ∧ Q none h97))))) ∧ (¬ fI h 46 2 < 60 → Ex X PG d 32 0 [some (.ref 1), some (.int (J 3))] [] h (fun v101 h102 => v101 = none ∧ SH h h102 ∧ Q none h102)))) ∧ (fI h 1 5 = (-1) → Ex X PG d 32 0 [some (.ref 1), some (.int (J 1))] [] h (fun v105 h106 => v105 = none ∧ SH h h106 ∧ Q none h106)))) ∧ (x1 = 0 → (-2147483648 ≤ x2 ∧ x2 < 2147483648) ∧ ((0 ≤ x2 → ((fI h 46 2 < 60 → ((¬ fI h 1 6 = 0 → Q none h) ∧ (fI h 1 6 = 0 → Ex X PG d 9 0 [some (.ref ru), some (.int (J 2)), some (.int (J x2))] [] (wF h 46 2 ((fI h 46 2) + 1)) (fun v123 h124 => v123 = none ∧ SH (wF h 46 2 ((fI h 46 2) + 1)) h124 ∧ Ex X PG d 24 0 [some (.ref 1), none] [] h124 (fun v126 h127 => v126 = none ∧ SH h124 h127 ∧ Q none h127))))) ∧ (¬ fI h 46 2 < 60 → Ex X PG d 32 0 [some (.ref 1), some (.int (J 3))] [] h (fun v156 h157 => v156 = none ∧ SH h h157 ∧ Q none h157)))) ∧ (¬ 0 ≤ x2 → Ex X PG d 32 0 [some (.ref 1), some (.int (J 0))] [] h (fun v213 h214 => v213 = none ∧ SH h h214 ∧ Q none h214)))))) ∧ (¬ 12 ≤ x3 → Ex X PG d 62 0 [some (.int (J x3))] [] h (fun v217 h218 => ∃ r219, v217 = some (.retAddr r219) ∧ SH h h218 ∧ Ex X PG d 31 0 [some (.ref 1), some (.retAddr r219), none] [] h218 (fun v220 h221 => ∃ r222 : Int, (-2147483648 ≤ r222 ∧ r222 < 2147483648) ∧ v220 = some (.int (J r222)) ∧ SH h218 h221 ∧ ((r222 = 0 → Ex X PG (d + 1) 61 21 [some (.ref 46), some (.int (J x1)), some (.int (J x2)), some (.int (J (x3 + 1)))] [] h221 Q) ∧ (¬ r222 = 0 → Ex X PG (d + 1) 61 21 [some (.ref 46), some (.int (J x1)), some (.int (J x3)), some (.int (J (x3 + 1)))] [] h221 Q))))))) :
    Ex X PG (d + 1) 61 21 [some (.ref 46), some (.int (J x1)), some (.int (J x2)), some (.int (J x3))] [] h Q := by
  refine wpx_ok (cut := [21]) 45 d 61 21 _ _ _ _ ?_
  show (((J 12) ≤ (J x3) → ((¬ (J x1) = (J 0) → (((J x1) = (J 0) → hs h 46 = (0, 5) ∧ (((hF h 46 2) < (J 60) → hs h 46 = (0, 5) ∧ ∃ q11, hR h 46 0 = some q11 ∧ hs h q11 = (0, 8) ∧ ((¬ (hF h q11 6) = (J 0) → Q none h) ∧ (¬ (¬ (hF h q11 6) = (J 0)) → hs h 46 = (0, 5) ∧ hs h 46 = (0, 5) ∧ hs (wG h 46 2 ((hF h 46 2) + (J 1))) 46 = (0, 5) ∧ ∃ q14, hR (wG h 46 2 ((hF h 46 2) + (J 1))) 46 1 = some q14 ∧ (((J x1) = (J 0) → (((J x1) = (J 0) → hs (wG h 46 2 ((hF h 46 2) + (J 1))) q14 = (0, 4) ∧ Ex X PG d 9 0 [some (.ref q14), some (.int (J 2)), some (.int (J x2))] [] (wG h 46 2 ((hF h 46 2) + (J 1))) (fun v19 h20 => v19 = none ∧ hs h20 46 = (0, 5) ∧ ∃ q21, hR h20 46 0 = some q21 ∧ hs h20 q21 = (0, 8) ∧ Ex X PG d 24 0 [some (.ref q21), none] [] h20 (fun v22 h23 => v22 = none ∧ Q none h23))) ∧ (¬ ((J x1) = (J 0)) → hs (wG h 46 2 ((hF h 46 2) + (J 1))) 46 = (0, 5) ∧ ∃ q26, hR (wG h 46 2 ((hF h 46 2) + (J 1))) 46 0 = some q26 ∧ hs (wG h 46 2 ((hF h 46 2) + (J 1))) q26 = (0, 8) ∧ hs (wG h 46 2 ((hF h 46 2) + (J 1))) q14 = (0, 4) ∧ Ex X PG d 9 0 [some (.ref q14), some (.int (J 2)), some (.int (hF (wG h 46 2 ((hF h 46 2) + (J 1))) q26 5))] [] (wG h 46 2 ((hF h 46 2) + (J 1))) (fun v27 h28 => v27 = none ∧ hs h28 46 = (0, 5) ∧ ∃ q29, hR h28 46 0 = some q29 ∧ hs h28 q29 = (0, 8) ∧ Ex X PG d 24 0 [some (.ref q29), none] [] h28 (fun v30 h31 => v30 = none ∧ Q none h31))))) ∧ (¬ ((J x1) = (J 0)) → (((J x1) = (J 0) → hs (wG h 46 2 ((hF h 46 2) + (J 1))) q14 = (0, 4) ∧ Ex X PG d 9 0 [some (.ref q14), some (.int (J 1)), some (.int (J x2))] [] (wG h 46 2 ((hF h 46 2) + (J 1))) (fun v36 h37 => v36 = none ∧ hs h37 46 = (0, 5) ∧ ∃ q38, hR h37 46 0 = some q38 ∧ hs h37 q38 = (0, 8) ∧ Ex X PG d 24 0 [some (.ref q38), none] [] h37 (fun v39 h40 => v39 = none ∧ Q none h40))) ∧ (¬ ((J x1) = (J 0)) → hs (wG h 46 2 ((hF h 46 2) + (J 1))) 46 = (0, 5) ∧ ∃ q43, hR (wG h 46 2 ((hF h 46 2) + (J 1))) 46 0 = some q43 ∧ hs (wG h 46 2 ((hF h 46 2) + (J 1))) q43 = (0, 8) ∧ hs (wG h 46 2 ((hF h 46 2) + (J 1))) q14 = (0, 4) ∧ Ex X PG d 9 0 [some (.ref q14), some (.int (J 1)), some (.int (hF (wG h 46 2 ((hF h 46 2) + (J 1))) q43 5))] [] (wG h 46 2 ((hF h 46 2) + (J 1))) (fun v44 h45 => v44 = none ∧ hs h45 46 = (0, 5) ∧ ∃ q46, hR h45 46 0 = some q46 ∧ hs h45 q46 = (0, 8) ∧ Ex X PG d 24 0 [some (.ref q46), none] [] h45 (fun v47 h48 => v47 = none ∧ Q none h48))))))))) ∧ (¬ ((hF h 46 2) < (J 60)) → hs h 46 = (0, 5) ∧ ∃ q51, hR h 46 0 = some q51 ∧ hs h q51 = (0, 8) ∧ Ex X PG d 32 0 [some (.ref q51), some (.int (J 3))] [] h (fun v52 h53 => v52 = none ∧ Q none h53)))) ∧ (¬ ((J x1) = (J 0)) → hs h 46 = (0, 5) ∧ ∃ q55, hR h 46 0 = some q55 ∧ hs h q55 = (0, 8) ∧ ((¬ (hF h q55 5) = (J (-1)) → hs h 46 = (0, 5) ∧ (((hF h 46 2) < (J 60) → hs h 46 = (0, 5) ∧ ∃ q60, hR h 46 0 = some q60 ∧ hs h q60 = (0, 8) ∧ ((¬ (hF h q60 6) = (J 0) → Q none h) ∧ (¬ (¬ (hF h q60 6) = (J 0)) → hs h 46 = (0, 5) ∧ hs h 46 = (0, 5) ∧ hs (wG h 46 2 ((hF h 46 2) + (J 1))) 46 = (0, 5) ∧ ∃ q63, hR (wG h 46 2 ((hF h 46 2) + (J 1))) 46 1 = some q63 ∧ (((J x1) = (J 0) → (((J x1) = (J 0) → hs (wG h 46 2 ((hF h 46 2) + (J 1))) q63 = (0, 4) ∧ Ex X PG d 9 0 [some (.ref q63), some (.int (J 2)), some (.int (J x2))] [] (wG h 46 2 ((hF h 46 2) + (J 1))) (fun v68 h69 => v68 = none ∧ hs h69 46 = (0, 5) ∧ ∃ q70, hR h69 46 0 = some q70 ∧ hs h69 q70 = (0, 8) ∧ Ex X PG d 24 0 [some (.ref q70), none] [] h69 (fun v71 h72 => v71 = none ∧ Q none h72))) ∧ (¬ ((J x1) = (J 0)) → hs (wG h 46 2 ((hF h 46 2) + (J 1))) 46 = (0, 5) ∧ ∃ q75, hR (wG h 46 2 ((hF h 46 2) + (J 1))) 46 0 = some q75 ∧ hs (wG h 46 2 ((hF h 46 2) + (J 1))) q75 = (0, 8) ∧ hs (wG h 46 2 ((hF h 46 2) + (J 1))) q63 = (0, 4) ∧ Ex X PG d 9 0 [some (.ref q63), some (.int (J 2)), some (.int (hF (wG h 46 2 ((hF h 46 2) + (J 1))) q75 5))] [] (wG h 46 2 ((hF h 46 2) + (J 1))) (fun v76 h77 => v76 = none ∧ hs h77 46 = (0, 5) ∧ ∃ q78, hR h77 46 0 = some q78 ∧ hs h77 q78 = (0, 8) ∧ Ex X PG d 24 0 [some (.ref q78), none] [] h77 (fun v79 h80 => v79 = none ∧ Q none h80))))) ∧ (¬ ((J x1) = (J 0)) → (((J x1) = (J 0) → hs (wG h 46 2 ((hF h 46 2) + (J 1))) q63 = (0, 4) ∧ Ex X PG d 9 0 [some (.ref q63), some (.int (J 1)), some (.int (J x2))] [] (wG h 46 2 ((hF h 46 2) + (J 1))) (fun v85 h86 => v85 = none ∧ hs h86 46 = (0, 5) ∧ ∃ q87, hR h86 46 0 = some q87 ∧ hs h86 q87 = (0, 8) ∧ Ex X PG d 24 0 [some (.ref q87), none] [] h86 (fun v88 h89 => v88 = none ∧ Q none h89))) ∧ (¬ ((J x1) = (J 0)) → hs (wG h 46 2 ((hF h 46 2) + (J 1))) 46 = (0, 5) ∧ ∃ q92, hR (wG h 46 2 ((hF h 46 2) + (J 1))) 46 0 = some q92 ∧ hs (wG h 46 2 ((hF h 46 2) + (J 1))) q92 = (0, 8) ∧ hs (wG h 46 2 ((hF h 46 2) + (J 1))) q63 = (0, 4) ∧ Ex X PG d 9 0 [some (.ref q63), some (.int (J 1)), some (.int (hF (wG h 46 2 ((hF h 46 2) + (J 1))) q92 5))] [] (wG h 46 2 ((hF h 46 2) + (J 1))) (fun v93 h94 => v93 = none ∧ hs h94 46 = (0, 5) ∧ ∃ q95, hR h94 46 0 = some q95 ∧ hs h94 q95 = (0, 8) ∧ Ex X PG d 24 0 [some (.ref q95), none] [] h94 (fun v96 h97 => v96 = none ∧ Q none h97))))))))) ∧ (¬ ((hF h 46 2) < (J 60)) → hs h 46 = (0, 5) ∧ ∃ q100, hR h 46 0 = some q100 ∧ hs h q100 = (0, 8) ∧ Ex X PG d 32 0 [some (.ref q100), some (.int (J 3))] [] h (fun v101 h102 => v101 = none ∧ Q none h102)))) ∧ (¬ (¬ (hF h q55 5) = (J (-1))) → hs h 46 = (0, 5) ∧ ∃ q104, hR h 46 0 = some q104 ∧ hs h q104 = (0, 8) ∧ Ex X PG d 32 0 [some (.ref q104), some (.int (J 1))] [] h (fun v105 h106 => v105 = none ∧ Q none h106)))))) ∧ (¬ (¬ (J x1) = (J 0)) → (((J 0) ≤ (J x2) → (((J x1) = (J 0) → hs h 46 = (0, 5) ∧ (((hF h 46 2) < (J 60) → hs h 46 = (0, 5) ∧ ∃ q115, hR h 46 0 = some q115 ∧ hs h q115 = (0, 8) ∧ ((¬ (hF h q115 6) = (J 0) → Q none h) ∧ (¬ (¬ (hF h q115 6) = (J 0)) → hs h 46 = (0, 5) ∧ hs h 46 = (0, 5) ∧ hs (wG h 46 2 ((hF h 46 2) + (J 1))) 46 = (0, 5) ∧ ∃ q118, hR (wG h 46 2 ((hF h 46 2) + (J 1))) 46 1 = some q118 ∧ (((J x1) = (J 0) → (((J x1) = (J 0) → hs (wG h 46 2 ((hF h 46 2) + (J 1))) q118 = (0, 4) ∧ Ex X PG d 9 0 [some (.ref q118), some (.int (J 2)), some (.int (J x2))] [] (wG h 46 2 ((hF h 46 2) + (J 1))) (fun v123 h124 => v123 = none ∧ hs h124 46 = (0, 5) ∧ ∃ q125, hR h124 46 0 = some q125 ∧ hs h124 q125 = (0, 8) ∧ Ex X PG d 24 0 [some (.ref q125), none] [] h124 (fun v126 h127 => v126 = none ∧ Q none h127))) ∧ (¬ ((J x1) = (J 0)) → hs (wG h 46 2 ((hF h 46 2) + (J 1))) 46 = (0, 5) ∧ ∃ q130, hR (wG h 46 2 ((hF h 46 2) + (J 1))) 46 0 = some q130 ∧ hs (wG h 46 2 ((hF h 46 2) + (J 1))) q130 = (0, 8) ∧ hs (wG h 46 2 ((hF h 46 2) + (J 1))) q118 = (0, 4) ∧ Ex X PG d 9 0 [some (.ref q118), some (.int (J 2)), some (.int (hF (wG h 46 2 ((hF h 46 2) + (J 1))) q130 5))] [] (wG h 46 2 ((hF h 46 2) + (J 1))) (fun v131 h132 => v131 = none ∧ hs h132 46 = (0, 5) ∧ ∃ q133, hR h132 46 0 = some q133 ∧ hs h132 q133 = (0, 8) ∧ Ex X PG d 24 0 [some (.ref q133), none] [] h132 (fun v134 h135 => v134 = none ∧ Q none h135))))) ∧ (¬ ((J x1) = (J 0)) → (((J x1) = (J 0) → hs (wG h 46 2 ((hF h 46 2) + (J 1))) q118 = (0, 4) ∧ Ex X PG d 9 0 [some (.ref q118), some (.int (J 1)), some (.int (J x2))] [] (wG h 46 2 ((hF h 46 2) + (J 1))) (fun v140 h141 => v140 = none ∧ hs h141 46 = (0, 5) ∧ ∃ q142, hR h141 46 0 = some q142 ∧ hs h141 q142 = (0, 8) ∧ Ex X PG d 24 0 [some (.ref q142), none] [] h141 (fun v143 h144 => v143 = none ∧ Q none h144))) ∧ (¬ ((J x1) = (J 0)) → hs (wG h 46 2 ((hF h 46 2) + (J 1))) 46 = (0, 5) ∧ ∃ q147, hR (wG h 46 2 ((hF h 46 2) + (J 1))) 46 0 = some q147 ∧ hs (wG h 46 2 ((hF h 46 2) + (J 1))) q147 = (0, 8) ∧ hs (wG h 46 2 ((hF h 46 2) + (J 1))) q118 = (0, 4) ∧ Ex X PG d 9 0 [some (.ref q118), some (.int (J 1)), some (.int (hF (wG h 46 2 ((hF h 46 2) + (J 1))) q147 5))] [] (wG h 46 2 ((hF h 46 2) + (J 1))) (fun v148 h149 => v148 = none ∧ hs h149 46 = (0, 5) ∧ ∃ q150, hR h149 46 0 = some q150 ∧ hs h149 q150 = (0, 8) ∧ Ex X PG d 24 0 [some (.ref q150), none] [] h149 (fun v151 h152 => v151 = none ∧ Q none h152))))))))) ∧ (¬ ((hF h 46 2) < (J 60)) → hs h 46 = (0, 5) ∧ ∃ q155, hR h 46 0 = some q155 ∧ hs h q155 = (0, 8) ∧ Ex X PG d 32 0 [some (.ref q155), some (.int (J 3))] [] h (fun v156 h157 => v156 = none ∧ Q none h157)))) ∧ (¬ ((J x1) = (J 0)) → hs h 46 = (0, 5) ∧ ∃ q159, hR h 46 0 = some q159 ∧ hs h q159 = (0, 8) ∧ ((¬ (hF h q159 5) = (J (-1)) → hs h 46 = (0, 5) ∧ (((hF h 46 2) < (J 60) → hs h 46 = (0, 5) ∧ ∃ q164, hR h 46 0 = some q164 ∧ hs h q164 = (0, 8) ∧ ((¬ (hF h q164 6) = (J 0) → Q none h) ∧ (¬ (¬ (hF h q164 6) = (J 0)) → hs h 46 = (0, 5) ∧ hs h 46 = (0, 5) ∧ hs (wG h 46 2 ((hF h 46 2) + (J 1))) 46 = (0, 5) ∧ ∃ q167, hR (wG h 46 2 ((hF h 46 2) + (J 1))) 46 1 = some q167 ∧ (((J x1) = (J 0) → (((J x1) = (J 0) → hs (wG h 46 2 ((hF h 46 2) + (J 1))) q167 = (0, 4) ∧ Ex X PG d 9 0 [some (.ref q167), some (.int (J 2)), some (.int (J x2))] [] (wG h 46 2 ((hF h 46 2) + (J 1))) (fun v172 h173 => v172 = none ∧ hs h173 46 = (0, 5) ∧ ∃ q174, hR h173 46 0 = some q174 ∧ hs h173 q174 = (0, 8) ∧ Ex X PG d 24 0 [some (.ref q174), none] [] h173 (fun v175 h176 => v175 = none ∧ Q none h176))) ∧ (¬ ((J x1) = (J 0)) → hs (wG h 46 2 ((hF h 46 2) + (J 1))) 46 = (0, 5) ∧ ∃ q179, hR (wG h 46 2 ((hF h 46 2) + (J 1))) 46 0 = some q179 ∧ hs (wG h 46 2 ((hF h 46 2) + (J 1))) q179 = (0, 8) ∧ hs (wG h 46 2 ((hF h 46 2) + (J 1))) q167 = (0, 4) ∧ Ex X PG d 9 0 [some (.ref q167), some (.int (J 2)), some (.int (hF (wG h 46 2 ((hF h 46 2) + (J 1))) q179 5))] [] (wG h 46 2 ((hF h 46 2) + (J 1))) (fun v180 h181 => v180 = none ∧ hs h181 46 = (0, 5) ∧ ∃ q182, hR h181 46 0 = some q182 ∧ hs h181 q182 = (0, 8) ∧ Ex X PG d 24 0 [some (.ref q182), none] [] h181 (fun v183 h184 => v183 = none ∧ Q none h184))))) ∧ (¬ ((J x1) = (J 0)) → (((J x1) = (J 0) → hs (wG h 46 2 ((hF h 46 2) + (J 1))) q167 = (0, 4) ∧ Ex X PG d 9 0 [some (.ref q167), some (.int (J 1)), some (.int (J x2))] [] (wG h 46 2 ((hF h 46 2) + (J 1))) (fun v189 h190 => v189 = none ∧ hs h190 46 = (0, 5) ∧ ∃ q191, hR h190 46 0 = some q191 ∧ hs h190 q191 = (0, 8) ∧ Ex X PG d 24 0 [some (.ref q191), none] [] h190 (fun v192 h193 => v192 = none ∧ Q none h193))) ∧ (¬ ((J x1) = (J 0)) → hs (wG h 46 2 ((hF h 46 2) + (J 1))) 46 = (0, 5) ∧ ∃ q196, hR (wG h 46 2 ((hF h 46 2) + (J 1))) 46 0 = some q196 ∧ hs (wG h 46 2 ((hF h 46 2) + (J 1))) q196 = (0, 8) ∧ hs (wG h 46 2 ((hF h 46 2) + (J 1))) q167 = (0, 4) ∧ Ex X PG d 9 0 [some (.ref q167), some (.int (J 1)), some (.int (hF (wG h 46 2 ((hF h 46 2) + (J 1))) q196 5))] [] (wG h 46 2 ((hF h 46 2) + (J 1))) (fun v197 h198 => v197 = none ∧ hs h198 46 = (0, 5) ∧ ∃ q199, hR h198 46 0 = some q199 ∧ hs h198 q199 = (0, 8) ∧ Ex X PG d 24 0 [some (.ref q199), none] [] h198 (fun v200 h201 => v200 = none ∧ Q none h201))))))))) ∧ (¬ ((hF h 46 2) < (J 60)) → hs h 46 = (0, 5) ∧ ∃ q204, hR h 46 0 = some q204 ∧ hs h q204 = (0, 8) ∧ Ex X PG d 32 0 [some (.ref q204), some (.int (J 3))] [] h (fun v205 h206 => v205 = none ∧ Q none h206)))) ∧ (¬ (¬ (hF h q159 5) = (J (-1))) → hs h 46 = (0, 5) ∧ ∃ q208, hR h 46 0 = some q208 ∧ hs h q208 = (0, 8) ∧ Ex X PG d 32 0 [some (.ref q208), some (.int (J 1))] [] h (fun v209 h210 => v209 = none ∧ Q none h210)))))) ∧ (¬ ((J 0) ≤ (J x2)) → hs h 46 = (0, 5) ∧ ∃ q212, hR h 46 0 = some q212 ∧ hs h q212 = (0, 8) ∧ Ex X PG d 32 0 [some (.ref q212), some (.int (J 0))] [] h (fun v213 h214 => v213 = none ∧ Q none h214)))))) ∧ (¬ ((J 12) ≤ (J x3)) → hs h 46 = (0, 5) ∧ ∃ q216, hR h 46 0 = some q216 ∧ Ex X PG d 62 0 [some (.int (J x3))] [] h (fun v217 h218 => ∃ r219, v217 = some (.retAddr r219) ∧ hs h218 q216 = (0, 8) ∧ Ex X PG d 31 0 [some (.ref q216), some (.retAddr r219), none] [] h218 (fun v220 h221 => ∃ r222, v220 = some (.int r222) ∧ ((r222 = (J 0) → Ex X PG (d + 1) 61 21 [some (.ref 46), some (.int (J x1)), some (.int (J x2)), some (.int ((J x3) + (J 1)))] [] h221 Q) ∧ (¬ (r222 = (J 0)) → Ex X PG (d + 1) 61 21 [some (.ref 46), some (.int (J x1)), some (.int (J x3)), some (.int ((J x3) + (J 1)))] [] h221 Q))))))
  try simp only [aI_wAL, fI_wAL, aL_wA, aL_wF, aI_wA_ne, aI_wF_ne, fI_wA_ne, fI_wF_ne, fI_wF_nk, aL_wAL_ne, J_sameA, J_sameF, aL_same, Nat.add_left_cancel_iff, Nat.add_eq_left, Nat.left_eq_add, not_false_eq_true, Nat.reduceEqDiff, Nat.reduceAdd, J_add, J_sub, J_mul, J_neg, J_and, J_or, J_xor, J_shl, J_shr, J_div, J_i2b, J_i2l, J_l2i, J_lcm, J_max, J_min, J_nab, J_nao, rdA, rdF, rdL, wA_fold, wF_fold, wL_fold, wC_fold]
  obtain ⟨k3, w⟩ := w
  refine ⟨fun c1 => ?_, fun c1 => ?_⟩
  · have t2 : 12 ≤ x3 := ((Jle (by decide) k3).mp c1)
    replace w := w.1 t2
    obtain ⟨k6, w⟩ := w
    refine ⟨fun c4 => ?_, fun c4 => ?_⟩
    · have t5 : ¬ x1 = 0 := (fun e => c4 ((Jeq k6 (by decide)).mpr e))
      replace w := w.1 t5
      refine ⟨fun c7 => absurd c7 (fun e => t5 ((Jeq k6 (by decide)).mp e)), fun _ => ?_⟩
      refine ⟨(ls46 C_h), _, (lr46_0 C_h), ?_⟩
      refine ⟨(ls1 C_h), ?_⟩
      refine ⟨fun c56 => ?_, fun c56 => ?_⟩
      · have t57 : ¬ fI h 1 5 = (-1) := (fun e => c56 ((Jeq (rg_toInt _) (by decide)).mpr e))
        replace w := w.1 t57
        refine ⟨(ls46 C_h), ?_⟩
        refine ⟨fun c58 => ?_, fun c58 => ?_⟩
        · have t59 : fI h 46 2 < 60 := ((Jlt (rg_toInt _) (by decide)).mp c58)
          replace w := w.1 t59
          refine ⟨(ls46 C_h), _, (lr46_0 C_h), ?_⟩
          refine ⟨(ls1 C_h), ?_⟩
          refine ⟨fun c61 => ?_, fun c61 => ?_⟩
          · have t62 : ¬ fI h 1 6 = 0 := (fun e => c61 ((Jeq (rg_toInt _) (by decide)).mpr e))
            replace w := w.1 t62
            exact w
          · have t62 : fI h 1 6 = 0 := ((Jeq (rg_toInt _) (by decide)).mp (Classical.byContradiction c61))
            replace w := w.2 t62
            refine ⟨(ls46 C_h), ?_⟩
            refine ⟨(ls46 C_h), ?_⟩
            refine ⟨(ls46 C_h), _, P_h, ?_⟩
            refine ⟨fun c64 => absurd c64 (fun e => t5 ((Jeq k6 (by decide)).mp e)), fun _ => ?_⟩
            refine ⟨fun c83 => absurd c83 (fun e => t5 ((Jeq k6 (by decide)).mp e)), fun _ => ?_⟩
            refine ⟨(ls46 C_h), _, (lr46_0 C_h), ?_⟩
            refine ⟨(ls1 C_h), ?_⟩
            refine ⟨(rule_0 K_h_0), ?_⟩
            refine Ex.mono w (Nat.le_refl _) ?_
            rintro v93 h94 ⟨rfl, s99, w⟩
            refine ⟨rfl, ?_⟩
            have C_h94 := Lay_SH s99 C_h
            have K_h94_0 := RuleAt_SH s99 K_h_0
            have P_h94 := (congrFun (congrFun s99.2 46) 1).trans P_h
            try simp only [aI_wAL, fI_wAL, aL_wA, aL_wF, aI_wA_ne, aI_wF_ne, fI_wA_ne, fI_wF_ne, fI_wF_nk, aL_wAL_ne, J_sameA, J_sameF, aL_same, Nat.add_left_cancel_iff, Nat.add_eq_left, Nat.left_eq_add, not_false_eq_true, Nat.reduceEqDiff, Nat.reduceAdd, J_add, J_sub, J_mul, J_neg, J_and, J_or, J_xor, J_shl, J_shr, J_div, J_i2b, J_i2l, J_l2i, J_lcm, J_max, J_min, J_nab, J_nao, rdA, rdF, rdL, wA_fold, wF_fold, wL_fold, wC_fold]
            refine ⟨(ls46 C_h94), _, (lr46_0 C_h94), ?_⟩
            refine ⟨(ls1 C_h94), ?_⟩
            refine Ex.mono w (Nat.le_refl _) ?_
            rintro v96 h97 ⟨rfl, s98, w⟩
            refine ⟨rfl, ?_⟩
            have C_h97 := Lay_SH s98 C_h94
            have K_h97_0 := RuleAt_SH s98 K_h94_0
            have P_h97 := (congrFun (congrFun s98.2 46) 1).trans P_h94
            try simp only [aI_wAL, fI_wAL, aL_wA, aL_wF, aI_wA_ne, aI_wF_ne, fI_wA_ne, fI_wF_ne, fI_wF_nk, aL_wAL_ne, J_sameA, J_sameF, aL_same, Nat.add_left_cancel_iff, Nat.add_eq_left, Nat.left_eq_add, not_false_eq_true, Nat.reduceEqDiff, Nat.reduceAdd, J_add, J_sub, J_mul, J_neg, J_and, J_or, J_xor, J_shl, J_shr, J_div, J_i2b, J_i2l, J_l2i, J_lcm, J_max, J_min, J_nab, J_nao, rdA, rdF, rdL, wA_fold, wF_fold, wL_fold, wC_fold]
            exact w
        · have t59 : ¬ fI h 46 2 < 60 := (fun e => c58 ((Jlt (rg_toInt _) (by decide)).mpr e))
          replace w := w.2 t59
          refine ⟨(ls46 C_h), _, (lr46_0 C_h), ?_⟩
          refine ⟨(ls1 C_h), ?_⟩
          refine Ex.mono w (Nat.le_refl _) ?_
          rintro v101 h102 ⟨rfl, s103, w⟩
          refine ⟨rfl, ?_⟩
          have C_h102 := Lay_SH s103 C_h
          have K_h102_0 := RuleAt_SH s103 K_h_0
          have P_h102 := (congrFun (congrFun s103.2 46) 1).trans P_h
          try simp only [aI_wAL, fI_wAL, aL_wA, aL_wF, aI_wA_ne, aI_wF_ne, fI_wA_ne, fI_wF_ne, fI_wF_nk, aL_wAL_ne, J_sameA, J_sameF, aL_same, Nat.add_left_cancel_iff, Nat.add_eq_left, Nat.left_eq_add, not_false_eq_true, Nat.reduceEqDiff, Nat.reduceAdd, J_add, J_sub, J_mul, J_neg, J_and, J_or, J_xor, J_shl, J_shr, J_div, J_i2b, J_i2l, J_l2i, J_lcm, J_max, J_min, J_nab, J_nao, rdA, rdF, rdL, wA_fold, wF_fold, wL_fold, wC_fold]
          exact w
      · have t57 : fI h 1 5 = (-1) := ((Jeq (rg_toInt _) (by decide)).mp (Classical.byContradiction c56))
        replace w := w.2 t57
        refine ⟨(ls46 C_h), _, (lr46_0 C_h), ?_⟩
        refine ⟨(ls1 C_h), ?_⟩
        refine Ex.mono w (Nat.le_refl _) ?_
        rintro v105 h106 ⟨rfl, s107, w⟩
        refine ⟨rfl, ?_⟩
        have C_h106 := Lay_SH s107 C_h
        have K_h106_0 := RuleAt_SH s107 K_h_0
        have P_h106 := (congrFun (congrFun s107.2 46) 1).trans P_h
        try simp only [aI_wAL, fI_wAL, aL_wA, aL_wF, aI_wA_ne, aI_wF_ne, fI_wA_ne, fI_wF_ne, fI_wF_nk, aL_wAL_ne, J_sameA, J_sameF, aL_same, Nat.add_left_cancel_iff, Nat.add_eq_left, Nat.left_eq_add, not_false_eq_true, Nat.reduceEqDiff, Nat.reduceAdd, J_add, J_sub, J_mul, J_neg, J_and, J_or, J_xor, J_shl, J_shr, J_div, J_i2b, J_i2l, J_l2i, J_lcm, J_max, J_min, J_nab, J_nao, rdA, rdF, rdL, wA_fold, wF_fold, wL_fold, wC_fold]
        exact w
    · have t5 : x1 = 0 := ((Jeq k6 (by decide)).mp (Classical.byContradiction c4))
      replace w := w.2 t5
      obtain ⟨k110, w⟩ := w
      refine ⟨fun c108 => ?_, fun c108 => ?_⟩
      · have t109 : 0 ≤ x2 := ((Jle (by decide) k110).mp c108)
        replace w := w.1 t109
        refine ⟨fun _ => ?_, fun c111 => absurd ((Jeq k6 (by decide)).mpr t5) c111⟩
        refine ⟨(ls46 C_h), ?_⟩
        refine ⟨fun c113 => ?_, fun c113 => ?_⟩
        · have t114 : fI h 46 2 < 60 := ((Jlt (rg_toInt _) (by decide)).mp c113)
          replace w := w.1 t114
          refine ⟨(ls46 C_h), _, (lr46_0 C_h), ?_⟩
          refine ⟨(ls1 C_h), ?_⟩
          refine ⟨fun c116 => ?_, fun c116 => ?_⟩
          · have t117 : ¬ fI h 1 6 = 0 := (fun e => c116 ((Jeq (rg_toInt _) (by decide)).mpr e))
            replace w := w.1 t117
            exact w
          · have t117 : fI h 1 6 = 0 := ((Jeq (rg_toInt _) (by decide)).mp (Classical.byContradiction c116))
            replace w := w.2 t117
            refine ⟨(ls46 C_h), ?_⟩
            refine ⟨(ls46 C_h), ?_⟩
            refine ⟨(ls46 C_h), _, P_h, ?_⟩
            refine ⟨fun _ => ?_, fun c119 => absurd ((Jeq k6 (by decide)).mpr t5) c119⟩
            refine ⟨fun _ => ?_, fun c121 => absurd ((Jeq k6 (by decide)).mpr t5) c121⟩
            refine ⟨(rule_0 K_h_0), ?_⟩
            refine Ex.mono w (Nat.le_refl _) ?_
            rintro v123 h124 ⟨rfl, s129, w⟩
            refine ⟨rfl, ?_⟩
            have C_h124 := Lay_SH s129 C_h
            have K_h124_0 := RuleAt_SH s129 K_h_0
            have P_h124 := (congrFun (congrFun s129.2 46) 1).trans P_h
            try simp only [aI_wAL, fI_wAL, aL_wA, aL_wF, aI_wA_ne, aI_wF_ne, fI_wA_ne, fI_wF_ne, fI_wF_nk, aL_wAL_ne, J_sameA, J_sameF, aL_same, Nat.add_left_cancel_iff, Nat.add_eq_left, Nat.left_eq_add, not_false_eq_true, Nat.reduceEqDiff, Nat.reduceAdd, J_add, J_sub, J_mul, J_neg, J_and, J_or, J_xor, J_shl, J_shr, J_div, J_i2b, J_i2l, J_l2i, J_lcm, J_max, J_min, J_nab, J_nao, rdA, rdF, rdL, wA_fold, wF_fold, wL_fold, wC_fold]
            refine ⟨(ls46 C_h124), _, (lr46_0 C_h124), ?_⟩
            refine ⟨(ls1 C_h124), ?_⟩
            refine Ex.mono w (Nat.le_refl _) ?_
            rintro v126 h127 ⟨rfl, s128, w⟩
            refine ⟨rfl, ?_⟩
            have C_h127 := Lay_SH s128 C_h124
            have K_h127_0 := RuleAt_SH s128 K_h124_0
            have P_h127 := (congrFun (congrFun s128.2 46) 1).trans P_h124
            try simp only [aI_wAL, fI_wAL, aL_wA, aL_wF, aI_wA_ne, aI_wF_ne, fI_wA_ne, fI_wF_ne, fI_wF_nk, aL_wAL_ne, J_sameA, J_sameF, aL_same, Nat.add_left_cancel_iff, Nat.add_eq_left, Nat.left_eq_add, not_false_eq_true, Nat.reduceEqDiff, Nat.reduceAdd, J_add, J_sub, J_mul, J_neg, J_and, J_or, J_xor, J_shl, J_shr, J_div, J_i2b, J_i2l, J_l2i, J_lcm, J_max, J_min, J_nab, J_nao, rdA, rdF, rdL, wA_fold, wF_fold, wL_fold, wC_fold]
            exact w
        · have t114 : ¬ fI h 46 2 < 60 := (fun e => c113 ((Jlt (rg_toInt _) (by decide)).mpr e))
          replace w := w.2 t114
          refine ⟨(ls46 C_h), _, (lr46_0 C_h), ?_⟩
          refine ⟨(ls1 C_h), ?_⟩
          refine Ex.mono w (Nat.le_refl _) ?_
          rintro v156 h157 ⟨rfl, s158, w⟩
          refine ⟨rfl, ?_⟩
          have C_h157 := Lay_SH s158 C_h
          have K_h157_0 := RuleAt_SH s158 K_h_0
          have P_h157 := (congrFun (congrFun s158.2 46) 1).trans P_h
          try simp only [aI_wAL, fI_wAL, aL_wA, aL_wF, aI_wA_ne, aI_wF_ne, fI_wA_ne, fI_wF_ne, fI_wF_nk, aL_wAL_ne, J_sameA, J_sameF, aL_same, Nat.add_left_cancel_iff, Nat.add_eq_left, Nat.left_eq_add, not_false_eq_true, Nat.reduceEqDiff, Nat.reduceAdd, J_add, J_sub, J_mul, J_neg, J_and, J_or, J_xor, J_shl, J_shr, J_div, J_i2b, J_i2l, J_l2i, J_lcm, J_max, J_min, J_nab, J_nao, rdA, rdF, rdL, wA_fold, wF_fold, wL_fold, wC_fold]
          exact w
      · have t109 : ¬ 0 ≤ x2 := (fun e => c108 ((Jle (by decide) k110).mpr e))
        replace w := w.2 t109
        refine ⟨(ls46 C_h), _, (lr46_0 C_h), ?_⟩
        refine ⟨(ls1 C_h), ?_⟩
        refine Ex.mono w (Nat.le_refl _) ?_
        rintro v213 h214 ⟨rfl, s215, w⟩
        refine ⟨rfl, ?_⟩
        have C_h214 := Lay_SH s215 C_h
        have K_h214_0 := RuleAt_SH s215 K_h_0
        have P_h214 := (congrFun (congrFun s215.2 46) 1).trans P_h
        try simp only [aI_wAL, fI_wAL, aL_wA, aL_wF, aI_wA_ne, aI_wF_ne, fI_wA_ne, fI_wF_ne, fI_wF_nk, aL_wAL_ne, J_sameA, J_sameF, aL_same, Nat.add_left_cancel_iff, Nat.add_eq_left, Nat.left_eq_add, not_false_eq_true, Nat.reduceEqDiff, Nat.reduceAdd, J_add, J_sub, J_mul, J_neg, J_and, J_or, J_xor, J_shl, J_shr, J_div, J_i2b, J_i2l, J_l2i, J_lcm, J_max, J_min, J_nab, J_nao, rdA, rdF, rdL, wA_fold, wF_fold, wL_fold, wC_fold]
        exact w
  · have t2 : ¬ 12 ≤ x3 := (fun e => c1 ((Jle (by decide) k3).mpr e))
    replace w := w.2 t2
    refine ⟨(ls46 C_h), _, (lr46_0 C_h), ?_⟩
    refine Ex.mono w (Nat.le_refl _) ?_
    rintro v217 h218 ⟨r219, rfl, s226, w⟩
    refine ⟨_, rfl, ?_⟩
    have C_h218 := Lay_SH s226 C_h
    have K_h218_0 := RuleAt_SH s226 K_h_0
    have P_h218 := (congrFun (congrFun s226.2 46) 1).trans P_h
    try simp only [aI_wAL, fI_wAL, aL_wA, aL_wF, aI_wA_ne, aI_wF_ne, fI_wA_ne, fI_wF_ne, fI_wF_nk, aL_wAL_ne, J_sameA, J_sameF, aL_same, Nat.add_left_cancel_iff, Nat.add_eq_left, Nat.left_eq_add, not_false_eq_true, Nat.reduceEqDiff, Nat.reduceAdd, J_add, J_sub, J_mul, J_neg, J_and, J_or, J_xor, J_shl, J_shr, J_div, J_i2b, J_i2l, J_l2i, J_lcm, J_max, J_min, J_nab, J_nao, rdA, rdF, rdL, wA_fold, wF_fold, wL_fold, wC_fold]
    refine ⟨(ls1 C_h218), ?_⟩
    refine Ex.mono w (Nat.le_refl _) ?_
    rintro v220 h221 ⟨r222, gr222, rfl, s225, w⟩
    refine ⟨_, rfl, ?_⟩
    have C_h221 := Lay_SH s225 C_h218
    have K_h221_0 := RuleAt_SH s225 K_h218_0
    have P_h221 := (congrFun (congrFun s225.2 46) 1).trans P_h218
    try simp only [aI_wAL, fI_wAL, aL_wA, aL_wF, aI_wA_ne, aI_wF_ne, fI_wA_ne, fI_wF_ne, fI_wF_nk, aL_wAL_ne, J_sameA, J_sameF, aL_same, Nat.add_left_cancel_iff, Nat.add_eq_left, Nat.left_eq_add, not_false_eq_true, Nat.reduceEqDiff, Nat.reduceAdd, J_add, J_sub, J_mul, J_neg, J_and, J_or, J_xor, J_shl, J_shr, J_div, J_i2b, J_i2l, J_l2i, J_lcm, J_max, J_min, J_nab, J_nao, rdA, rdF, rdL, wA_fold, wF_fold, wL_fold, wC_fold]
    refine ⟨fun c223 => ?_, fun c223 => ?_⟩
    · have t224 : r222 = 0 := ((Jeq gr222 (by decide)).mp c223)
      replace w := w.1 t224
      exact w
    · have t224 : ¬ r222 = 0 := (fun e => c223 ((Jeq gr222 (by decide)).mpr e))
      replace w := w.2 t224
      exact w
theorem m61 {X : Cst} {d ru : Nat} {L j p : Int} {tp : Int → Int} {c : Cd} {h : AH} {Q : Post} (C : Lay h) (K : RuleAt h ru) (P : hR h 46 1 = some ru) (hX : X.2 = X2) (hr : 16 ≤ ru ∧ ru + 4 < 46) (hd : 4 ≤ d) (R : CC h tp L j p c ru) (hc : (c.length : Int) ≤ j) (hp : 0 ≤ p ∧ p ≤ 60) (k : CQu h tp L ru (vl tp L j p c) Q) : Ex X PG d 61 0 [some (.ref 46), none, none, none] [] h Q := by
  obtain ⟨d, rfl⟩ : ∃ e, d = e + 1 := ⟨d - 1, by omega⟩
  have tj := R.1.2.2.1
  have tL := R.1.2.1
  have e2 := R.1.2.2.2.2.1
  have e3 := R.1.2.2.2.1
  have e5 := R.1.2.2.2.2.2.2.1
  have e6 := R.1.2.2.2.2.2.2.2
  have wb := wdx_b tp L j
  -- a fault here
  have fl : ∀ q : Int, 0 ≤ q ∧ q < 8 → CQu h tp L ru (flR (1 + 8 * j + q)) Q → Ex X PG d 32 0 [some (.ref 1), some (.int (J q))] [] h (fun v h' => v = none ∧ SH h h' ∧ Q none h') := by
    intro q hq kf
    refine m32 C (by omega) (fun z => absurd e6 z) (fun _ => ⟨rfl, SH.rf.wF, ?_⟩)
    rw [e3]
    exact kf.bad (by omega) (Fr.rf.wF (by unfold TUr TTf; omega)) (R.fl hr.1 (by omega) hq)
  -- a part is put
  have put : ∀ o a : Int, 0 ≤ o ∧ o < 15 → 0 ≤ a ∧ a < 100000 → ¬ p = 60 → j < L → CQu h tp L ru (0, nx tp L j, p + 1, c ++ [(o, a)]) Q →
      Ex X PG d 9 0 [some (.ref ru), some (.int (J (cm o))), some (.int (J a))] [] (wF h 46 2 (p + 1)) (fun v h2 => v = none ∧ SH (wF h 46 2 (p + 1)) h2 ∧ Ex X PG d 24 0 [some (.ref 1), none] [] h2 (fun v h3 => v = none ∧ SH h2 h3 ∧ Q none h3)) := by
    intro o a ho ha np lt kf
    have Fw : Fr (fun c k => c = 46 ∧ k = 2) h (wF h 46 2 (p + 1)) := Fr.rf.wF ⟨rfl, rfl⟩
    have Gw := R.2.2.fr Fw (fun a k z => by unfold TAd; omega)
    refine m9 (Fw.C C) (RuleAt_SH Fw.1 K) (by omega) Gw (by omega) ho ha (fun h2 F2 G2 => ⟨rfl, F2.1, ?_⟩)
    have T2 : TkC h2 tp L j 0 := (R.1.fr Fw (by omega) (by omega)).fr F2 (by unfold TAd; omega) (by unfold TAd; omega)
    refine m24n (F2.C (Fw.C C)) (by omega) T2 (fun h3 F3 T3 => ⟨rfl, F3.1, ?_⟩)
    refine kf.1 rfl h3 ((Fw.mo (fun _ _ z => Or.inr (Or.inl z))).tr ((F2.mo (fun _ _ => TAd_u)).tr (F3.mo (fun _ _ => TTk_u)))) ⟨T3, ?_, G2.fr F3 (fun a k z => by unfold TTk at z; unfold TAd; omega)⟩
    rw [F3.f 46 2 (by unfold TTk; omega), F2.f 46 2 (by unfold TAd; omega), fI_wF_eq (by omega)]
  have lp : ∀ (z : Nat) (i w g : Int), 12 - i = z → 0 ≤ i → i ≤ 12 → (g = 1 ∧ tkK tp L j = 1 ∨ g = 0 ∧ ¬ tkK tp L j = 1) → (wdx tp L j < i → w = wdx tp L j) → (¬ wdx tp L j < i → w = -1) → Ex X PG (d + 1) 61 21 [some (.ref 46), some (.int (J g)), some (.int (J w)), some (.int (J i))] [] h Q := by
    intro z
    induction z with
    | zero =>
      intro i w g ez i0 i1 hg w1 w0
      have ew : w = wdx tp L j := w1 (by omega)
      refine r61_21 C K P ?_
      rw [e5, e6, R.2.1]
      unfold vl at k
      rcases hg with ⟨rfl, tk⟩ | ⟨rfl, tk⟩
      · rw [pI_pos tk] at k
        have vb := tkV_b tj.1 tk
        refine ⟨by omega, fun _ => ⟨by omega, fun _ => ⟨fun n => ⟨fun lt => ⟨fun z => absurd rfl z, fun _ => ?_⟩, fun lt => ?_⟩, fun e => ?_⟩, fun z => absurd z (by decide)⟩, fun c => absurd (by omega) c⟩
        · rw [pI_neg n, pI_neg (by omega)] at k
          exact put 0 _ (by omega) (by omega) (by omega) (tkK_L tk).1 k
        · rw [pI_neg n, pI_pos (by omega)] at k
          exact fl 3 (by omega) k
        · rw [pI_pos e] at k
          exact fl 1 (by omega) k
      · rw [pI_neg tk] at k
        refine ⟨by omega, fun _ => ⟨by omega, fun z => absurd rfl z, fun _ => ⟨by omega, fun wn => ⟨fun lt => ⟨fun z => absurd rfl z, fun _ => ?_⟩, fun lt => ?_⟩, fun wn => ?_⟩⟩, fun c => absurd (by omega) c⟩
        · rw [pI_neg (by omega), pI_neg (by omega)] at k
          rw [ew]
          have nw : ¬ wdx tp L j = -1 := by omega
          exact put 1 _ (by omega) (by omega) (by omega) (wdx_L tj.1 tj.2 nw) k
        · rw [pI_neg (by omega), pI_pos (by omega)] at k
          exact fl 3 (by omega) k
        · rw [pI_pos (by omega)] at k
          refine fl 0 (by omega) ?_
          rw [Int.add_zero]; exact k
    | succ z ih =>
      intro i w g ez i0 i1 hg w1 w0
      have ik := wdx_k (tp := tp) (L := L) (j := j) (k := i) (by omega)
      refine r61_21 C K P ⟨by omega, fun c => absurd c (by omega), fun _ => ?_⟩
      refine m62 C (by omega) (by omega) ⟨_, rfl, SH.rf, ?_⟩
      refine m31s C (by omega) hX R.1 (wNs_b i) (fun y => ⟨1, by omega, rfl, SH.rf, fun z => absurd z (by decide), fun _ => ?_⟩) (fun y => ⟨0, by omega, rfl, SH.rf, fun _ => ?_, fun z => absurd rfl z⟩)
      · have := ik.mp y
        exact ih (i + 1) i g (by omega) (by omega) (by omega) hg (fun _ => this.symm) (fun n => by omega)
      · have n : ¬ wdx tp L j = i := fun z => y (ik.mpr z)
        exact ih (i + 1) w g (by omega) (by omega) (by omega) hg (fun l => w1 (by omega)) (fun l => w0 (by omega))
  refine r61_0 C K P ?_
  rw [e2]
  have lpi : ∀ g : Int, (g = 1 ∧ tkK tp L j = 1 ∨ g = 0 ∧ ¬ tkK tp L j = 1) → Ex X PG (d + 1) 61 21 [some (.ref 46), some (.int (J g)), some (.int (J (-1))), some (.int (J 0))] [] h Q := fun g hg => lp 12 0 (-1) g (by omega) (by omega) (by omega) hg (fun l => by omega) (fun _ => rfl)
  exact ⟨fun n => lpi 0 (Or.inr ⟨rfl, n⟩), fun y => lpi 1 (Or.inl ⟨rfl, y⟩)⟩
