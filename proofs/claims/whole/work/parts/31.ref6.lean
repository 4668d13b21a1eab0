/-! THE REFERENCE: the words of a person. -/
noncomputable def hereP (S : Int → Int) (p : Int) : Int := sumN (S 2).toNat fun q => bI (¬ q = p ∧ pS S q 0 = pS S p 0)
noncomputable def wd (S : Int → Int) (t : Prop) (p k : Int) : Int :=
  if k = 0 then p else if k = 1 then pS S p 0 else if k = 2 then S (34 + pS S p 0) else if k = 3 then pS S p 1
  else if k = 4 then lft S t (pS S p 0) (pS S p 1) else if k = 5 then pS S p 2 else if k = 6 then S 3 else if k = 7 then bI t
  else if k = 8 then hereP S p else if k = 9 then pS S p 3 else if k = 10 then pS S p 4 else askd S t p
theorem pc4_bset (P : Nat → Prop) : pc4 (bset 4 P : Nat) = bI (P 0) + bI (P 1) + bI (P 2) + bI (P 3) := by
  unfold bset bset bset bset bset
  by_cases a : P 0 <;> by_cases b : P 1 <;> by_cases c : P 2 <;> by_cases e : P 3 <;> simp only [a, b, c, e, if_true, if_false, bI_pos, bI_neg, not_false_eq_true] <;> decide
theorem here_eq {S : Int → Int} {p : Int} (W : WF 999 S) (hp : 0 ≤ p ∧ p < S 2) : (0 ≤ iand (pIn S (pS S p 0)) (ixr (shl 1 (iand p 31)) (-1)) ∧ iand (pIn S (pS S p 0)) (ixr (shl 1 (iand p 31)) (-1)) < 16) ∧ pc4 (iand (pIn S (pS S p 0)) (ixr (shl 1 (iand p 31)) (-1))) = hereP S p := by
  have b := W.1
  unfold WFb at b
  have l := bset_lt16 (pinP S (pS S p 0))
  have e : iand (pIn S (pS S p 0)) (ixr (shl 1 (iand p 31)) (-1)) = ((bset 4 (fun q => pinP S (pS S p 0) q ∧ ¬ (q : Int) = p) : Nat) : Int) := by
    unfold pIn
    rw [shl_1 (by omega), iandn_nat (by omega)]
    refine congrArg Nat.cast (bset_eq fun k => ?_)
    rw [Nat.testBit_and, Nat.testBit_xor, Nat.testBit_two_pow, show (4294967295 : Nat) = 2 ^ 32 - 1 from rfl, Nat.testBit_two_pow_sub_one, Bool.and_eq_true, bset_bit]
    constructor
    · intro z
      refine ⟨z.1.1, z.1.2, fun q => ?_⟩
      have : p.toNat = k := by omega
      have z2 := z.2
      rw [decide_eq_true this, decide_eq_true (show k < 32 by omega)] at z2
      exact absurd z2 (by decide)
    · intro z
      refine ⟨⟨z.1, z.2.1⟩, ?_⟩
      rw [decide_eq_false (show ¬ p.toNat = k by intro q; exact z.2.2 (by omega)), decide_eq_true (show k < 32 by omega)]
      rfl
  rw [e]
  have l2 := bset_lt16 (fun q => pinP S (pS S p 0) q ∧ ¬ (q : Int) = p)
  refine ⟨by omega, ?_⟩
  rw [pc4_bset]
  have no : ∀ k : Nat, S 2 ≤ k → bI (pinP S (pS S p 0) k ∧ ¬ (k : Int) = p) = 0 := fun k hk => bI_neg fun z => by have := z.1.1; omega
  have ya : ∀ k : Nat, (k : Int) < S 2 → bI (pinP S (pS S p 0) k ∧ ¬ (k : Int) = p) = bI (¬ (k : Int) = p ∧ pS S k 0 = pS S p 0) := fun k hk => bI_iff ⟨fun z => ⟨z.2, z.1.2⟩, fun z => ⟨⟨hk, z.2⟩, z.1⟩⟩
  unfold hereP
  have : S 2 = 1 ∨ S 2 = 2 ∨ S 2 = 3 ∨ S 2 = 4 := by omega
  rcases this with q | q | q | q
  · rw [q, show (1 : Int).toNat = 1 from rfl, ya 0 (by omega), no 1 (by omega), no 2 (by omega), no 3 (by omega)]
    show _ = 0 + bI _
    rw [Int.add_zero, Int.add_zero, Int.add_zero, Int.zero_add]
  · rw [q, show (2 : Int).toNat = 2 from rfl, ya 0 (by omega), ya 1 (by omega), no 2 (by omega), no 3 (by omega)]
    show _ = 0 + bI _ + bI _
    rw [Int.add_zero, Int.add_zero, Int.zero_add]
  · rw [q, show (3 : Int).toNat = 3 from rfl, ya 0 (by omega), ya 1 (by omega), ya 2 (by omega), no 3 (by omega)]
    show _ = 0 + bI _ + bI _ + bI _
    rw [Int.add_zero, Int.zero_add]
  · rw [q, show (4 : Int).toNat = 4 from rfl, ya 0 (by omega), ya 1 (by omega), ya 2 (by omega), ya 3 (by omega)]
    show _ = 0 + bI _ + bI _ + bI _ + bI _
    rw [Int.zero_add]
-- OutwardDoorsModel.words(I)V at 0
set_option maxRecDepth 20000 in
set_option maxHeartbeats 4000000 in
theorem r235_0 {X : Cst} {d : Nat} {x1 : Int} {h : AH} {Q : Post} (C_h : Lay h) (hd : 7 ≤ d)
  (w : (0 ≤ 10 + 6 * x1 + 0 ∧ 10 + 6 * x1 + 0 < 123) ∧ (0 ≤ 34 + (pS (aI h 266) x1 0) ∧ 34 + (pS (aI h 266) x1 0) < 123) ∧ (0 ≤ 10 + 6 * x1 + 1 ∧ 10 + 6 * x1 + 1 < 123) ∧ (WF 999 (aI h 266)) ∧ (0 ≤ x1 ∧ x1 < aI h 266 2) ∧ (∀ h17, SH (wAL (wAL (wAL (wAL h 265 0 (i2l x1)) 265 1 (i2l (pS (aI h 266) x1 0))) 265 2 (i2l (aI h 266 (34 + (pS (aI h 266) x1 0))))) 265 3 (i2l (pS (aI h 266) x1 1))) h17 → (Fr (fun c _ => c = 267) (wAL (wAL (wAL (wAL h 265 0 (i2l x1)) 265 1 (i2l (pS (aI h 266) x1 0))) 265 2 (i2l (aI h 266 (34 + (pS (aI h 266) x1 0))))) 265 3 (i2l (pS (aI h 266) x1 1))) h17 ∧ ∀ r, 0 ≤ r → r < aI h 266 0 → aI h17 267 r = lft (aI h 266) (nightP (aI h 266)) r (pS (aI h 266) x1 1)) → (0 ≤ 10 + 6 * x1 + 2 ∧ 10 + 6 * x1 + 2 < 123) ∧ (WF 999 (aI h17 266)) ∧ ((¬ (nightP (aI h17 266)) → (-2147483648 ≤ (pS (aI h 266) x1 0) ∧ (pS (aI h 266) x1 0) < 2147483648) ∧ (0 ≤ (iand (pIn (aI h17 266) (pS (aI h 266) x1 0)) (ixr (shl 1 (iand x1 31)) (-1))) ∧ (iand (pIn (aI h17 266) (pS (aI h 266) x1 0)) (ixr (shl 1 (iand x1 31)) (-1))) < 16) ∧ (0 ≤ 10 + 6 * x1 + 3 ∧ 10 + 6 * x1 + 3 < 123) ∧ (0 ≤ 10 + 6 * x1 + 4 ∧ 10 + 6 * x1 + 4 < 123) ∧ (0 ≤ x1 ∧ x1 < aI h17 266 2) ∧ (∀ h56, SH (wAL (wAL (wAL (wAL (wAL (wAL (wAL h17 265 4 (i2l (lft (aI h 266) (nightP (aI h 266)) (pS (aI h 266) x1 0) (pS (aI h 266) x1 1)))) 265 5 (i2l (pS (aI h17 266) x1 2))) 265 6 (i2l (aI h17 266 3))) 265 7 (0 : Int64)) 265 8 (i2l (pc4 (iand (pIn (aI h17 266) (pS (aI h 266) x1 0)) (ixr (shl 1 (iand x1 31)) (-1)))))) 265 9 (i2l (pS (aI h17 266) x1 3))) 265 10 (i2l (pS (aI h17 266) x1 4))) h56 → (Fr (fun c _ => c = 267) (wAL (wAL (wAL (wAL (wAL (wAL (wAL h17 265 4 (i2l (lft (aI h 266) (nightP (aI h 266)) (pS (aI h 266) x1 0) (pS (aI h 266) x1 1)))) 265 5 (i2l (pS (aI h17 266) x1 2))) 265 6 (i2l (aI h17 266 3))) 265 7 (0 : Int64)) 265 8 (i2l (pc4 (iand (pIn (aI h17 266) (pS (aI h 266) x1 0)) (ixr (shl 1 (iand x1 31)) (-1)))))) 265 9 (i2l (pS (aI h17 266) x1 3))) 265 10 (i2l (pS (aI h17 266) x1 4))) h56) → Q none (wAL h56 265 11 (i2l (askd (aI h17 266) (nightP (aI h17 266)) x1))))) ∧ ((nightP (aI h17 266)) → (-2147483648 ≤ (pS (aI h 266) x1 0) ∧ (pS (aI h 266) x1 0) < 2147483648) ∧ (0 ≤ (iand (pIn (aI h17 266) (pS (aI h 266) x1 0)) (ixr (shl 1 (iand x1 31)) (-1))) ∧ (iand (pIn (aI h17 266) (pS (aI h 266) x1 0)) (ixr (shl 1 (iand x1 31)) (-1))) < 16) ∧ (0 ≤ 10 + 6 * x1 + 3 ∧ 10 + 6 * x1 + 3 < 123) ∧ (0 ≤ 10 + 6 * x1 + 4 ∧ 10 + 6 * x1 + 4 < 123) ∧ (0 ≤ x1 ∧ x1 < aI h17 266 2) ∧ (∀ h82, SH (wAL (wAL (wAL (wAL (wAL (wAL (wAL h17 265 4 (i2l (lft (aI h 266) (nightP (aI h 266)) (pS (aI h 266) x1 0) (pS (aI h 266) x1 1)))) 265 5 (i2l (pS (aI h17 266) x1 2))) 265 6 (i2l (aI h17 266 3))) 265 7 (1 : Int64)) 265 8 (i2l (pc4 (iand (pIn (aI h17 266) (pS (aI h 266) x1 0)) (ixr (shl 1 (iand x1 31)) (-1)))))) 265 9 (i2l (pS (aI h17 266) x1 3))) 265 10 (i2l (pS (aI h17 266) x1 4))) h82 → (Fr (fun c _ => c = 267) (wAL (wAL (wAL (wAL (wAL (wAL (wAL h17 265 4 (i2l (lft (aI h 266) (nightP (aI h 266)) (pS (aI h 266) x1 0) (pS (aI h 266) x1 1)))) 265 5 (i2l (pS (aI h17 266) x1 2))) 265 6 (i2l (aI h17 266 3))) 265 7 (1 : Int64)) 265 8 (i2l (pc4 (iand (pIn (aI h17 266) (pS (aI h 266) x1 0)) (ixr (shl 1 (iand x1 31)) (-1)))))) 265 9 (i2l (pS (aI h17 266) x1 3))) 265 10 (i2l (pS (aI h17 266) x1 4))) h82) → Q none (wAL h82 265 11 (i2l (askd (aI h17 266) (nightP (aI h17 266)) x1)))))))) :
    Ex X PG (d + 1) 235 0 [some (.ref 256), some (.int (J x1)), none] [] h Q := by
  refine wpx_ok (cut := []) 114 d 235 0 _ _ _ _ ?_
  show hs h 256 = (0, 11) ∧ Ex X PG d 209 0 [some (.ref 256), some (.int (J x1)), some (.int (J 0))] [] h (fun v1 h2 => ∃ r3, v1 = some (.int r3) ∧ hs h2 256 = (0, 11) ∧ ∃ q5, hR h2 256 19 = some q5 ∧ (hs h2 q5).1 = 2 ∧ ix (J 0) (hs h2 q5).2 ∧ hs (wL h2 q5 (Int32.toNatClampNeg (J 0)) (Int32.toInt64 (J x1))) 256 = (0, 11) ∧ ∃ q6, hR (wL h2 q5 (Int32.toNatClampNeg (J 0)) (Int32.toInt64 (J x1))) 256 19 = some q6 ∧ (hs (wL h2 q5 (Int32.toNatClampNeg (J 0)) (Int32.toInt64 (J x1))) q6).1 = 2 ∧ ix (J 1) (hs (wL h2 q5 (Int32.toNatClampNeg (J 0)) (Int32.toInt64 (J x1))) q6).2 ∧ hs (wL (wL h2 q5 (Int32.toNatClampNeg (J 0)) (Int32.toInt64 (J x1))) q6 (Int32.toNatClampNeg (J 1)) (Int32.toInt64 r3)) 256 = (0, 11) ∧ ∃ q7, hR (wL (wL h2 q5 (Int32.toNatClampNeg (J 0)) (Int32.toInt64 (J x1))) q6 (Int32.toNatClampNeg (J 1)) (Int32.toInt64 r3)) 256 19 = some q7 ∧ hs (wL (wL h2 q5 (Int32.toNatClampNeg (J 0)) (Int32.toInt64 (J x1))) q6 (Int32.toNatClampNeg (J 1)) (Int32.toInt64 r3)) 256 = (0, 11) ∧ ∃ q8, hR (wL (wL h2 q5 (Int32.toNatClampNeg (J 0)) (Int32.toInt64 (J x1))) q6 (Int32.toNatClampNeg (J 1)) (Int32.toInt64 r3)) 256 20 = some q8 ∧ (hs (wL (wL h2 q5 (Int32.toNatClampNeg (J 0)) (Int32.toInt64 (J x1))) q6 (Int32.toNatClampNeg (J 1)) (Int32.toInt64 r3)) q8).1 = 1 ∧ ix ((J 34) + r3) (hs (wL (wL h2 q5 (Int32.toNatClampNeg (J 0)) (Int32.toInt64 (J x1))) q6 (Int32.toNatClampNeg (J 1)) (Int32.toInt64 r3)) q8).2 ∧ (hs (wL (wL h2 q5 (Int32.toNatClampNeg (J 0)) (Int32.toInt64 (J x1))) q6 (Int32.toNatClampNeg (J 1)) (Int32.toInt64 r3)) q7).1 = 2 ∧ ix (J 2) (hs (wL (wL h2 q5 (Int32.toNatClampNeg (J 0)) (Int32.toInt64 (J x1))) q6 (Int32.toNatClampNeg (J 1)) (Int32.toInt64 r3)) q7).2 ∧ hs (wL (wL (wL h2 q5 (Int32.toNatClampNeg (J 0)) (Int32.toInt64 (J x1))) q6 (Int32.toNatClampNeg (J 1)) (Int32.toInt64 r3)) q7 (Int32.toNatClampNeg (J 2)) (Int32.toInt64 (hI (wL (wL h2 q5 (Int32.toNatClampNeg (J 0)) (Int32.toInt64 (J x1))) q6 (Int32.toNatClampNeg (J 1)) (Int32.toInt64 r3)) q8 (Int32.toNatClampNeg ((J 34) + r3))))) 256 = (0, 11) ∧ ∃ q10, hR (wL (wL (wL h2 q5 (Int32.toNatClampNeg (J 0)) (Int32.toInt64 (J x1))) q6 (Int32.toNatClampNeg (J 1)) (Int32.toInt64 r3)) q7 (Int32.toNatClampNeg (J 2)) (Int32.toInt64 (hI (wL (wL h2 q5 (Int32.toNatClampNeg (J 0)) (Int32.toInt64 (J x1))) q6 (Int32.toNatClampNeg (J 1)) (Int32.toInt64 r3)) q8 (Int32.toNatClampNeg ((J 34) + r3))))) 256 19 = some q10 ∧ hs (wL (wL (wL h2 q5 (Int32.toNatClampNeg (J 0)) (Int32.toInt64 (J x1))) q6 (Int32.toNatClampNeg (J 1)) (Int32.toInt64 r3)) q7 (Int32.toNatClampNeg (J 2)) (Int32.toInt64 (hI (wL (wL h2 q5 (Int32.toNatClampNeg (J 0)) (Int32.toInt64 (J x1))) q6 (Int32.toNatClampNeg (J 1)) (Int32.toInt64 r3)) q8 (Int32.toNatClampNeg ((J 34) + r3))))) 256 = (0, 11) ∧ Ex X PG d 209 0 [some (.ref 256), some (.int (J x1)), some (.int (J 1))] [] (wL (wL (wL h2 q5 (Int32.toNatClampNeg (J 0)) (Int32.toInt64 (J x1))) q6 (Int32.toNatClampNeg (J 1)) (Int32.toInt64 r3)) q7 (Int32.toNatClampNeg (J 2)) (Int32.toInt64 (hI (wL (wL h2 q5 (Int32.toNatClampNeg (J 0)) (Int32.toInt64 (J x1))) q6 (Int32.toNatClampNeg (J 1)) (Int32.toInt64 r3)) q8 (Int32.toNatClampNeg ((J 34) + r3))))) (fun v11 h12 => ∃ r13, v11 = some (.int r13) ∧ (hs h12 q10).1 = 2 ∧ ix (J 3) (hs h12 q10).2 ∧ hs (wL h12 q10 (Int32.toNatClampNeg (J 3)) (Int32.toInt64 r13)) 256 = (0, 11) ∧ ∃ q15, hR (wL h12 q10 (Int32.toNatClampNeg (J 3)) (Int32.toInt64 r13)) 256 19 = some q15 ∧ hs (wL h12 q10 (Int32.toNatClampNeg (J 3)) (Int32.toInt64 r13)) 256 = (0, 11) ∧ Ex X PG d 214 0 [some (.ref 256), some (.int (J x1))] [] (wL h12 q10 (Int32.toNatClampNeg (J 3)) (Int32.toInt64 r13)) (fun v16 h17 => ∃ r18, v16 = some (.int r18) ∧ (hs h17 q15).1 = 2 ∧ ix (J 4) (hs h17 q15).2 ∧ hs (wL h17 q15 (Int32.toNatClampNeg (J 4)) (Int32.toInt64 r18)) 256 = (0, 11) ∧ ∃ q21, hR (wL h17 q15 (Int32.toNatClampNeg (J 4)) (Int32.toInt64 r18)) 256 19 = some q21 ∧ hs (wL h17 q15 (Int32.toNatClampNeg (J 4)) (Int32.toInt64 r18)) 256 = (0, 11) ∧ Ex X PG d 209 0 [some (.ref 256), some (.int (J x1)), some (.int (J 2))] [] (wL h17 q15 (Int32.toNatClampNeg (J 4)) (Int32.toInt64 r18)) (fun v22 h23 => ∃ r24, v22 = some (.int r24) ∧ (hs h23 q21).1 = 2 ∧ ix (J 5) (hs h23 q21).2 ∧ hs (wL h23 q21 (Int32.toNatClampNeg (J 5)) (Int32.toInt64 r24)) 256 = (0, 11) ∧ ∃ q26, hR (wL h23 q21 (Int32.toNatClampNeg (J 5)) (Int32.toInt64 r24)) 256 19 = some q26 ∧ hs (wL h23 q21 (Int32.toNatClampNeg (J 5)) (Int32.toInt64 r24)) 256 = (0, 11) ∧ ∃ q27, hR (wL h23 q21 (Int32.toNatClampNeg (J 5)) (Int32.toInt64 r24)) 256 20 = some q27 ∧ (hs (wL h23 q21 (Int32.toNatClampNeg (J 5)) (Int32.toInt64 r24)) q27).1 = 1 ∧ ix (J 3) (hs (wL h23 q21 (Int32.toNatClampNeg (J 5)) (Int32.toInt64 r24)) q27).2 ∧ (hs (wL h23 q21 (Int32.toNatClampNeg (J 5)) (Int32.toInt64 r24)) q26).1 = 2 ∧ ix (J 6) (hs (wL h23 q21 (Int32.toNatClampNeg (J 5)) (Int32.toInt64 r24)) q26).2 ∧ hs (wL (wL h23 q21 (Int32.toNatClampNeg (J 5)) (Int32.toInt64 r24)) q26 (Int32.toNatClampNeg (J 6)) (Int32.toInt64 (hI (wL h23 q21 (Int32.toNatClampNeg (J 5)) (Int32.toInt64 r24)) q27 (Int32.toNatClampNeg (J 3))))) 256 = (0, 11) ∧ ∃ q28, hR (wL (wL h23 q21 (Int32.toNatClampNeg (J 5)) (Int32.toInt64 r24)) q26 (Int32.toNatClampNeg (J 6)) (Int32.toInt64 (hI (wL h23 q21 (Int32.toNatClampNeg (J 5)) (Int32.toInt64 r24)) q27 (Int32.toNatClampNeg (J 3))))) 256 19 = some q28 ∧ hs (wL (wL h23 q21 (Int32.toNatClampNeg (J 5)) (Int32.toInt64 r24)) q26 (Int32.toNatClampNeg (J 6)) (Int32.toInt64 (hI (wL h23 q21 (Int32.toNatClampNeg (J 5)) (Int32.toInt64 r24)) q27 (Int32.toNatClampNeg (J 3))))) 256 = (0, 11) ∧ Ex X PG d 220 0 [some (.ref 256), none] [] (wL (wL h23 q21 (Int32.toNatClampNeg (J 5)) (Int32.toInt64 r24)) q26 (Int32.toNatClampNeg (J 6)) (Int32.toInt64 (hI (wL h23 q21 (Int32.toNatClampNeg (J 5)) (Int32.toInt64 r24)) q27 (Int32.toNatClampNeg (J 3))))) (fun v29 h30 => ∃ r31, v29 = some (.int r31) ∧ ((r31 = (J 0) → (hs h30 q28).1 = 2 ∧ ix (J 7) (hs h30 q28).2 ∧ hs (wL h30 q28 (Int32.toNatClampNeg (J 7)) (0 : Int64)) 256 = (0, 11) ∧ ∃ q35, hR (wL h30 q28 (Int32.toNatClampNeg (J 7)) (0 : Int64)) 256 19 = some q35 ∧ hs (wL h30 q28 (Int32.toNatClampNeg (J 7)) (0 : Int64)) 256 = (0, 11) ∧ Ex X PG d 224 0 [some (.ref 256), some (.int r3), none, none] [] (wL h30 q28 (Int32.toNatClampNeg (J 7)) (0 : Int64)) (fun v36 h37 => ∃ r38, v36 = some (.int r38) ∧ Ex X PG d 236 0 [some (.int (r38 &&& (((J 1) <<< ((J x1) &&& J 31)) ^^^ (J (-1))))), none, none] [] h37 (fun v40 h41 => ∃ r42, v40 = some (.int r42) ∧ (hs h41 q35).1 = 2 ∧ ix (J 8) (hs h41 q35).2 ∧ hs (wL h41 q35 (Int32.toNatClampNeg (J 8)) (Int32.toInt64 r42)) 256 = (0, 11) ∧ ∃ q44, hR (wL h41 q35 (Int32.toNatClampNeg (J 8)) (Int32.toInt64 r42)) 256 19 = some q44 ∧ hs (wL h41 q35 (Int32.toNatClampNeg (J 8)) (Int32.toInt64 r42)) 256 = (0, 11) ∧ Ex X PG d 209 0 [some (.ref 256), some (.int (J x1)), some (.int (J 3))] [] (wL h41 q35 (Int32.toNatClampNeg (J 8)) (Int32.toInt64 r42)) (fun v45 h46 => ∃ r47, v45 = some (.int r47) ∧ (hs h46 q44).1 = 2 ∧ ix (J 9) (hs h46 q44).2 ∧ hs (wL h46 q44 (Int32.toNatClampNeg (J 9)) (Int32.toInt64 r47)) 256 = (0, 11) ∧ ∃ q49, hR (wL h46 q44 (Int32.toNatClampNeg (J 9)) (Int32.toInt64 r47)) 256 19 = some q49 ∧ hs (wL h46 q44 (Int32.toNatClampNeg (J 9)) (Int32.toInt64 r47)) 256 = (0, 11) ∧ Ex X PG d 209 0 [some (.ref 256), some (.int (J x1)), some (.int (J 4))] [] (wL h46 q44 (Int32.toNatClampNeg (J 9)) (Int32.toInt64 r47)) (fun v50 h51 => ∃ r52, v50 = some (.int r52) ∧ (hs h51 q49).1 = 2 ∧ ix (J 10) (hs h51 q49).2 ∧ hs (wL h51 q49 (Int32.toNatClampNeg (J 10)) (Int32.toInt64 r52)) 256 = (0, 11) ∧ ∃ q54, hR (wL h51 q49 (Int32.toNatClampNeg (J 10)) (Int32.toInt64 r52)) 256 19 = some q54 ∧ hs (wL h51 q49 (Int32.toNatClampNeg (J 10)) (Int32.toInt64 r52)) 256 = (0, 11) ∧ Ex X PG d 237 0 [some (.ref 256), some (.int (J x1)), none, none, none] [] (wL h51 q49 (Int32.toNatClampNeg (J 10)) (Int32.toInt64 r52)) (fun v55 h56 => ∃ r57, v55 = some (.int r57) ∧ (hs h56 q54).1 = 2 ∧ ix (J 11) (hs h56 q54).2 ∧ Q none (wL h56 q54 (Int32.toNatClampNeg (J 11)) (Int32.toInt64 r57)))))))) ∧ (¬ (r31 = (J 0)) → (hs h30 q28).1 = 2 ∧ ix (J 7) (hs h30 q28).2 ∧ hs (wL h30 q28 (Int32.toNatClampNeg (J 7)) (1 : Int64)) 256 = (0, 11) ∧ ∃ q61, hR (wL h30 q28 (Int32.toNatClampNeg (J 7)) (1 : Int64)) 256 19 = some q61 ∧ hs (wL h30 q28 (Int32.toNatClampNeg (J 7)) (1 : Int64)) 256 = (0, 11) ∧ Ex X PG d 224 0 [some (.ref 256), some (.int r3), none, none] [] (wL h30 q28 (Int32.toNatClampNeg (J 7)) (1 : Int64)) (fun v62 h63 => ∃ r64, v62 = some (.int r64) ∧ Ex X PG d 236 0 [some (.int (r64 &&& (((J 1) <<< ((J x1) &&& J 31)) ^^^ (J (-1))))), none, none] [] h63 (fun v66 h67 => ∃ r68, v66 = some (.int r68) ∧ (hs h67 q61).1 = 2 ∧ ix (J 8) (hs h67 q61).2 ∧ hs (wL h67 q61 (Int32.toNatClampNeg (J 8)) (Int32.toInt64 r68)) 256 = (0, 11) ∧ ∃ q70, hR (wL h67 q61 (Int32.toNatClampNeg (J 8)) (Int32.toInt64 r68)) 256 19 = some q70 ∧ hs (wL h67 q61 (Int32.toNatClampNeg (J 8)) (Int32.toInt64 r68)) 256 = (0, 11) ∧ Ex X PG d 209 0 [some (.ref 256), some (.int (J x1)), some (.int (J 3))] [] (wL h67 q61 (Int32.toNatClampNeg (J 8)) (Int32.toInt64 r68)) (fun v71 h72 => ∃ r73, v71 = some (.int r73) ∧ (hs h72 q70).1 = 2 ∧ ix (J 9) (hs h72 q70).2 ∧ hs (wL h72 q70 (Int32.toNatClampNeg (J 9)) (Int32.toInt64 r73)) 256 = (0, 11) ∧ ∃ q75, hR (wL h72 q70 (Int32.toNatClampNeg (J 9)) (Int32.toInt64 r73)) 256 19 = some q75 ∧ hs (wL h72 q70 (Int32.toNatClampNeg (J 9)) (Int32.toInt64 r73)) 256 = (0, 11) ∧ Ex X PG d 209 0 [some (.ref 256), some (.int (J x1)), some (.int (J 4))] [] (wL h72 q70 (Int32.toNatClampNeg (J 9)) (Int32.toInt64 r73)) (fun v76 h77 => ∃ r78, v76 = some (.int r78) ∧ (hs h77 q75).1 = 2 ∧ ix (J 10) (hs h77 q75).2 ∧ hs (wL h77 q75 (Int32.toNatClampNeg (J 10)) (Int32.toInt64 r78)) 256 = (0, 11) ∧ ∃ q80, hR (wL h77 q75 (Int32.toNatClampNeg (J 10)) (Int32.toInt64 r78)) 256 19 = some q80 ∧ hs (wL h77 q75 (Int32.toNatClampNeg (J 10)) (Int32.toInt64 r78)) 256 = (0, 11) ∧ Ex X PG d 237 0 [some (.ref 256), some (.int (J x1)), none, none, none] [] (wL h77 q75 (Int32.toNatClampNeg (J 10)) (Int32.toInt64 r78)) (fun v81 h82 => ∃ r83, v81 = some (.int r83) ∧ (hs h82 q80).1 = 2 ∧ ix (J 11) (hs h82 q80).2 ∧ Q none (wL h82 q80 (Int32.toNatClampNeg (J 11)) (Int32.toInt64 r83))))))))))))))
  try simp only [aI_wAL, fI_wAL, aL_wA, aL_wF, aI_wA_ne, aI_wF_ne, fI_wA_ne, fI_wF_ne, fI_wF_nk, aL_wAL_ne, J_sameA, J_sameF, aL_same, Nat.add_left_cancel_iff, Nat.add_eq_left, Nat.left_eq_add, not_false_eq_true, Nat.reduceEqDiff, Nat.reduceAdd, J_add, J_sub, J_mul, J_neg, J_and, J_or, J_xor, J_shl, J_shr, J_div, J_i2b, J_i2l, J_l2i, J_lcm, J_max, J_min, J_nab, J_nao, rdA, rdF, rdL, wA_fold, wF_fold, wL_fold, wC_fold]
  refine ⟨(ls256 C_h), ?_⟩
  obtain ⟨k4, w⟩ := w
  refine m209 (h := h) (p := x1) (w := 0) C_h (by omega) k4 ?_
  refine ⟨_, rfl, ?_⟩
  try simp only [aI_wAL, fI_wAL, aL_wA, aL_wF, aI_wA_ne, aI_wF_ne, fI_wA_ne, fI_wF_ne, fI_wF_nk, aL_wAL_ne, J_sameA, J_sameF, aL_same, Nat.add_left_cancel_iff, Nat.add_eq_left, Nat.left_eq_add, not_false_eq_true, Nat.reduceEqDiff, Nat.reduceAdd, J_add, J_sub, J_mul, J_neg, J_and, J_or, J_xor, J_shl, J_shr, J_div, J_i2b, J_i2l, J_l2i, J_lcm, J_max, J_min, J_nab, J_nao, rdA, rdF, rdL, wA_fold, wF_fold, wL_fold, wC_fold]
  refine ⟨(ls256 C_h), _, (lr256_19 C_h), ?_⟩
  refine ⟨congrArg Prod.fst (ls265 C_h), ixs (ls265 C_h) (by decide) (by decide), ?_⟩
  refine ⟨(ls256 C_h), _, (lr256_19 C_h), ?_⟩
  refine ⟨congrArg Prod.fst (ls265 C_h), ixs (ls265 C_h) (by decide) (by decide), ?_⟩
  refine ⟨(ls256 C_h), _, (lr256_19 C_h), ?_⟩
  refine ⟨(ls256 C_h), _, (lr256_20 C_h), ?_⟩
  obtain ⟨k9, w⟩ := w
  refine ⟨congrArg Prod.fst (ls266 C_h), ixs (ls266 C_h) k9 (by decide), ?_⟩
  try simp only [aI_wAL, fI_wAL, aL_wA, aL_wF, aI_wA_ne, aI_wF_ne, fI_wA_ne, fI_wF_ne, fI_wF_nk, aL_wAL_ne, J_sameA, J_sameF, aL_same, Nat.add_left_cancel_iff, Nat.add_eq_left, Nat.left_eq_add, not_false_eq_true, Nat.reduceEqDiff, Nat.reduceAdd]
  refine ⟨congrArg Prod.fst (ls265 C_h), ixs (ls265 C_h) (by decide) (by decide), ?_⟩
  refine ⟨(ls256 C_h), _, (lr256_19 C_h), ?_⟩
  refine ⟨(ls256 C_h), ?_⟩
  obtain ⟨k14, w⟩ := w
  refine m209 (h := wAL (wAL (wAL h 265 0 (i2l x1)) 265 1 (i2l (pS (aI h 266) x1 0))) 265 2 (i2l (aI h 266 (34 + (pS (aI h 266) x1 0))))) (p := x1) (w := 1) C_h (by omega) (by first | exact k14 | (simp only [aI_wAL, fI_wAL, aL_wA, aL_wF, aI_wA_ne, aI_wF_ne, fI_wA_ne, fI_wF_ne, fI_wF_nk, aL_wAL_ne, Nat.add_left_cancel_iff, Nat.add_eq_left, Nat.left_eq_add, not_false_eq_true, Nat.reduceEqDiff]; exact k14)) ?_
  refine ⟨_, rfl, ?_⟩
  try simp only [aI_wAL, fI_wAL, aL_wA, aL_wF, aI_wA_ne, aI_wF_ne, fI_wA_ne, fI_wF_ne, fI_wF_nk, aL_wAL_ne, J_sameA, J_sameF, aL_same, Nat.add_left_cancel_iff, Nat.add_eq_left, Nat.left_eq_add, not_false_eq_true, Nat.reduceEqDiff, Nat.reduceAdd, J_add, J_sub, J_mul, J_neg, J_and, J_or, J_xor, J_shl, J_shr, J_div, J_i2b, J_i2l, J_l2i, J_lcm, J_max, J_min, J_nab, J_nao, rdA, rdF, rdL, wA_fold, wF_fold, wL_fold, wC_fold]
  refine ⟨congrArg Prod.fst (ls265 C_h), ixs (ls265 C_h) (by decide) (by decide), ?_⟩
  refine ⟨(ls256 C_h), _, (lr256_19 C_h), ?_⟩
  refine ⟨(ls256 C_h), ?_⟩
  obtain ⟨k19, w⟩ := w
  obtain ⟨k20, w⟩ := w
  refine m214 (h := wAL (wAL (wAL (wAL h 265 0 (i2l x1)) 265 1 (i2l (pS (aI h 266) x1 0))) 265 2 (i2l (aI h 266 (34 + (pS (aI h 266) x1 0))))) 265 3 (i2l (pS (aI h 266) x1 1))) (p := x1) C_h (by omega) (by first | exact k19 | (simp only [aI_wAL, fI_wAL, aL_wA, aL_wF, aI_wA_ne, aI_wF_ne, fI_wA_ne, fI_wF_ne, fI_wF_nk, aL_wAL_ne, Nat.add_left_cancel_iff, Nat.add_eq_left, Nat.left_eq_add, not_false_eq_true, Nat.reduceEqDiff]; exact k19)) (by first | exact k20 | (simp only [aI_wAL, fI_wAL, aL_wA, aL_wF, aI_wA_ne, aI_wF_ne, fI_wA_ne, fI_wF_ne, fI_wF_nk, aL_wAL_ne, Nat.add_left_cancel_iff, Nat.add_eq_left, Nat.left_eq_add, not_false_eq_true, Nat.reduceEqDiff]; exact k20)) ?_
  intro h17 s87 p88
  try simp only [aI_wAL, fI_wAL, aL_wA, aL_wF, aI_wA_ne, aI_wF_ne, fI_wA_ne, fI_wF_ne, fI_wF_nk, aL_wAL_ne, Nat.add_left_cancel_iff, Nat.add_eq_left, Nat.left_eq_add, not_false_eq_true, Nat.reduceEqDiff] at p88
  replace w := w h17 s87 p88
  refine ⟨_, rfl, ?_⟩
  have C_h17 := Lay_SH s87 C_h
  try simp only [aI_wAL, fI_wAL, aL_wA, aL_wF, aI_wA_ne, aI_wF_ne, fI_wA_ne, fI_wF_ne, fI_wF_nk, aL_wAL_ne, J_sameA, J_sameF, aL_same, Nat.add_left_cancel_iff, Nat.add_eq_left, Nat.left_eq_add, not_false_eq_true, Nat.reduceEqDiff, Nat.reduceAdd, J_add, J_sub, J_mul, J_neg, J_and, J_or, J_xor, J_shl, J_shr, J_div, J_i2b, J_i2l, J_l2i, J_lcm, J_max, J_min, J_nab, J_nao, rdA, rdF, rdL, wA_fold, wF_fold, wL_fold, wC_fold]
  refine ⟨congrArg Prod.fst (ls265 C_h17), ixs (ls265 C_h17) (by decide) (by decide), ?_⟩
  refine ⟨(ls256 C_h17), _, (lr256_19 C_h17), ?_⟩
  refine ⟨(ls256 C_h17), ?_⟩
  obtain ⟨k25, w⟩ := w
  refine m209 (h := wAL h17 265 4 (i2l (lft (aI h 266) (nightP (aI h 266)) (pS (aI h 266) x1 0) (pS (aI h 266) x1 1)))) (p := x1) (w := 2) C_h17 (by omega) (by first | exact k25 | (simp only [aI_wAL, fI_wAL, aL_wA, aL_wF, aI_wA_ne, aI_wF_ne, fI_wA_ne, fI_wF_ne, fI_wF_nk, aL_wAL_ne, Nat.add_left_cancel_iff, Nat.add_eq_left, Nat.left_eq_add, not_false_eq_true, Nat.reduceEqDiff]; exact k25)) ?_
  refine ⟨_, rfl, ?_⟩
  try simp only [aI_wAL, fI_wAL, aL_wA, aL_wF, aI_wA_ne, aI_wF_ne, fI_wA_ne, fI_wF_ne, fI_wF_nk, aL_wAL_ne, J_sameA, J_sameF, aL_same, Nat.add_left_cancel_iff, Nat.add_eq_left, Nat.left_eq_add, not_false_eq_true, Nat.reduceEqDiff, Nat.reduceAdd, J_add, J_sub, J_mul, J_neg, J_and, J_or, J_xor, J_shl, J_shr, J_div, J_i2b, J_i2l, J_l2i, J_lcm, J_max, J_min, J_nab, J_nao, rdA, rdF, rdL, wA_fold, wF_fold, wL_fold, wC_fold]
  refine ⟨congrArg Prod.fst (ls265 C_h17), ixs (ls265 C_h17) (by decide) (by decide), ?_⟩
  refine ⟨(ls256 C_h17), _, (lr256_19 C_h17), ?_⟩
  refine ⟨(ls256 C_h17), _, (lr256_20 C_h17), ?_⟩
  refine ⟨congrArg Prod.fst (ls266 C_h17), ixs (ls266 C_h17) (by decide) (by decide), ?_⟩
  try simp only [aI_wAL, fI_wAL, aL_wA, aL_wF, aI_wA_ne, aI_wF_ne, fI_wA_ne, fI_wF_ne, fI_wF_nk, aL_wAL_ne, J_sameA, J_sameF, aL_same, Nat.add_left_cancel_iff, Nat.add_eq_left, Nat.left_eq_add, not_false_eq_true, Nat.reduceEqDiff, Nat.reduceAdd]
  refine ⟨congrArg Prod.fst (ls265 C_h17), ixs (ls265 C_h17) (by decide) (by decide), ?_⟩
  refine ⟨(ls256 C_h17), _, (lr256_19 C_h17), ?_⟩
  refine ⟨(ls256 C_h17), ?_⟩
  obtain ⟨k32, w⟩ := w
  refine m220 (h := wAL (wAL (wAL h17 265 4 (i2l (lft (aI h 266) (nightP (aI h 266)) (pS (aI h 266) x1 0) (pS (aI h 266) x1 1)))) 265 5 (i2l (pS (aI h17 266) x1 2))) 265 6 (i2l (aI h17 266 3)))  C_h17 (by omega) (by first | exact k32 | (simp only [aI_wAL, fI_wAL, aL_wA, aL_wF, aI_wA_ne, aI_wF_ne, fI_wA_ne, fI_wF_ne, fI_wF_nk, aL_wAL_ne, Nat.add_left_cancel_iff, Nat.add_eq_left, Nat.left_eq_add, not_false_eq_true, Nat.reduceEqDiff]; exact k32)) ?_
  refine ⟨_, rfl, ?_⟩
  try simp only [aI_wAL, fI_wAL, aL_wA, aL_wF, aI_wA_ne, aI_wF_ne, fI_wA_ne, fI_wF_ne, fI_wF_nk, aL_wAL_ne, J_sameA, J_sameF, aL_same, Nat.add_left_cancel_iff, Nat.add_eq_left, Nat.left_eq_add, not_false_eq_true, Nat.reduceEqDiff, Nat.reduceAdd, J_add, J_sub, J_mul, J_neg, J_and, J_or, J_xor, J_shl, J_shr, J_div, J_i2b, J_i2l, J_l2i, J_lcm, J_max, J_min, J_nab, J_nao, rdA, rdF, rdL, wA_fold, wF_fold, wL_fold, wC_fold]
  refine ⟨fun c33 => ?_, fun c33 => ?_⟩
  · have t34 : ¬ (nightP (aI h17 266)) := ((bI0 _).mp c33)
    replace w := w.1 t34
    refine ⟨congrArg Prod.fst (ls265 C_h17), ixs (ls265 C_h17) (by decide) (by decide), ?_⟩
    refine ⟨(ls256 C_h17), _, (lr256_19 C_h17), ?_⟩
    refine ⟨(ls256 C_h17), ?_⟩
    obtain ⟨k39, w⟩ := w
    refine m224 (h := wAL (wAL (wAL (wAL h17 265 4 (i2l (lft (aI h 266) (nightP (aI h 266)) (pS (aI h 266) x1 0) (pS (aI h 266) x1 1)))) 265 5 (i2l (pS (aI h17 266) x1 2))) 265 6 (i2l (aI h17 266 3))) 265 7 (0 : Int64)) (r := (pS (aI h 266) x1 0)) C_h17 (by omega) (by first | exact k32 | (simp only [aI_wAL, fI_wAL, aL_wA, aL_wF, aI_wA_ne, aI_wF_ne, fI_wA_ne, fI_wF_ne, fI_wF_nk, aL_wAL_ne, Nat.add_left_cancel_iff, Nat.add_eq_left, Nat.left_eq_add, not_false_eq_true, Nat.reduceEqDiff]; exact k32)) (by first | exact k39 | (simp only [aI_wAL, fI_wAL, aL_wA, aL_wF, aI_wA_ne, aI_wF_ne, fI_wA_ne, fI_wF_ne, fI_wF_nk, aL_wAL_ne, Nat.add_left_cancel_iff, Nat.add_eq_left, Nat.left_eq_add, not_false_eq_true, Nat.reduceEqDiff]; exact k39)) ?_
    refine ⟨_, rfl, ?_⟩
    try simp only [aI_wAL, fI_wAL, aL_wA, aL_wF, aI_wA_ne, aI_wF_ne, fI_wA_ne, fI_wF_ne, fI_wF_nk, aL_wAL_ne, J_sameA, J_sameF, aL_same, Nat.add_left_cancel_iff, Nat.add_eq_left, Nat.left_eq_add, not_false_eq_true, Nat.reduceEqDiff, Nat.reduceAdd, J_add, J_sub, J_mul, J_neg, J_and, J_or, J_xor, J_shl, J_shr, J_div, J_i2b, J_i2l, J_l2i, J_lcm, J_max, J_min, J_nab, J_nao, rdA, rdF, rdL, wA_fold, wF_fold, wL_fold, wC_fold]
    obtain ⟨k43, w⟩ := w
    refine m236 (h := wAL (wAL (wAL (wAL h17 265 4 (i2l (lft (aI h 266) (nightP (aI h 266)) (pS (aI h 266) x1 0) (pS (aI h 266) x1 1)))) 265 5 (i2l (pS (aI h17 266) x1 2))) 265 6 (i2l (aI h17 266 3))) 265 7 (0 : Int64)) (s := (iand (pIn (aI h17 266) (pS (aI h 266) x1 0)) (ixr (shl 1 (iand x1 31)) (-1)))) C_h17 (by omega) (by first | exact k43 | (simp only [aI_wAL, fI_wAL, aL_wA, aL_wF, aI_wA_ne, aI_wF_ne, fI_wA_ne, fI_wF_ne, fI_wF_nk, aL_wAL_ne, Nat.add_left_cancel_iff, Nat.add_eq_left, Nat.left_eq_add, not_false_eq_true, Nat.reduceEqDiff]; exact k43)) ?_
    refine ⟨_, rfl, ?_⟩
    try simp only [aI_wAL, fI_wAL, aL_wA, aL_wF, aI_wA_ne, aI_wF_ne, fI_wA_ne, fI_wF_ne, fI_wF_nk, aL_wAL_ne, J_sameA, J_sameF, aL_same, Nat.add_left_cancel_iff, Nat.add_eq_left, Nat.left_eq_add, not_false_eq_true, Nat.reduceEqDiff, Nat.reduceAdd, J_add, J_sub, J_mul, J_neg, J_and, J_or, J_xor, J_shl, J_shr, J_div, J_i2b, J_i2l, J_l2i, J_lcm, J_max, J_min, J_nab, J_nao, rdA, rdF, rdL, wA_fold, wF_fold, wL_fold, wC_fold]
    refine ⟨congrArg Prod.fst (ls265 C_h17), ixs (ls265 C_h17) (by decide) (by decide), ?_⟩
    refine ⟨(ls256 C_h17), _, (lr256_19 C_h17), ?_⟩
    refine ⟨(ls256 C_h17), ?_⟩
    obtain ⟨k48, w⟩ := w
    refine m209 (h := wAL (wAL (wAL (wAL (wAL h17 265 4 (i2l (lft (aI h 266) (nightP (aI h 266)) (pS (aI h 266) x1 0) (pS (aI h 266) x1 1)))) 265 5 (i2l (pS (aI h17 266) x1 2))) 265 6 (i2l (aI h17 266 3))) 265 7 (0 : Int64)) 265 8 (i2l (pc4 (iand (pIn (aI h17 266) (pS (aI h 266) x1 0)) (ixr (shl 1 (iand x1 31)) (-1)))))) (p := x1) (w := 3) C_h17 (by omega) (by first | exact k48 | (simp only [aI_wAL, fI_wAL, aL_wA, aL_wF, aI_wA_ne, aI_wF_ne, fI_wA_ne, fI_wF_ne, fI_wF_nk, aL_wAL_ne, Nat.add_left_cancel_iff, Nat.add_eq_left, Nat.left_eq_add, not_false_eq_true, Nat.reduceEqDiff]; exact k48)) ?_
    refine ⟨_, rfl, ?_⟩
    try simp only [aI_wAL, fI_wAL, aL_wA, aL_wF, aI_wA_ne, aI_wF_ne, fI_wA_ne, fI_wF_ne, fI_wF_nk, aL_wAL_ne, J_sameA, J_sameF, aL_same, Nat.add_left_cancel_iff, Nat.add_eq_left, Nat.left_eq_add, not_false_eq_true, Nat.reduceEqDiff, Nat.reduceAdd, J_add, J_sub, J_mul, J_neg, J_and, J_or, J_xor, J_shl, J_shr, J_div, J_i2b, J_i2l, J_l2i, J_lcm, J_max, J_min, J_nab, J_nao, rdA, rdF, rdL, wA_fold, wF_fold, wL_fold, wC_fold]
    refine ⟨congrArg Prod.fst (ls265 C_h17), ixs (ls265 C_h17) (by decide) (by decide), ?_⟩
    refine ⟨(ls256 C_h17), _, (lr256_19 C_h17), ?_⟩
    refine ⟨(ls256 C_h17), ?_⟩
    obtain ⟨k53, w⟩ := w
    refine m209 (h := wAL (wAL (wAL (wAL (wAL (wAL h17 265 4 (i2l (lft (aI h 266) (nightP (aI h 266)) (pS (aI h 266) x1 0) (pS (aI h 266) x1 1)))) 265 5 (i2l (pS (aI h17 266) x1 2))) 265 6 (i2l (aI h17 266 3))) 265 7 (0 : Int64)) 265 8 (i2l (pc4 (iand (pIn (aI h17 266) (pS (aI h 266) x1 0)) (ixr (shl 1 (iand x1 31)) (-1)))))) 265 9 (i2l (pS (aI h17 266) x1 3))) (p := x1) (w := 4) C_h17 (by omega) (by first | exact k53 | (simp only [aI_wAL, fI_wAL, aL_wA, aL_wF, aI_wA_ne, aI_wF_ne, fI_wA_ne, fI_wF_ne, fI_wF_nk, aL_wAL_ne, Nat.add_left_cancel_iff, Nat.add_eq_left, Nat.left_eq_add, not_false_eq_true, Nat.reduceEqDiff]; exact k53)) ?_
    refine ⟨_, rfl, ?_⟩
    try simp only [aI_wAL, fI_wAL, aL_wA, aL_wF, aI_wA_ne, aI_wF_ne, fI_wA_ne, fI_wF_ne, fI_wF_nk, aL_wAL_ne, J_sameA, J_sameF, aL_same, Nat.add_left_cancel_iff, Nat.add_eq_left, Nat.left_eq_add, not_false_eq_true, Nat.reduceEqDiff, Nat.reduceAdd, J_add, J_sub, J_mul, J_neg, J_and, J_or, J_xor, J_shl, J_shr, J_div, J_i2b, J_i2l, J_l2i, J_lcm, J_max, J_min, J_nab, J_nao, rdA, rdF, rdL, wA_fold, wF_fold, wL_fold, wC_fold]
    refine ⟨congrArg Prod.fst (ls265 C_h17), ixs (ls265 C_h17) (by decide) (by decide), ?_⟩
    refine ⟨(ls256 C_h17), _, (lr256_19 C_h17), ?_⟩
    refine ⟨(ls256 C_h17), ?_⟩
    obtain ⟨k58, w⟩ := w
    refine m237 (h := wAL (wAL (wAL (wAL (wAL (wAL (wAL h17 265 4 (i2l (lft (aI h 266) (nightP (aI h 266)) (pS (aI h 266) x1 0) (pS (aI h 266) x1 1)))) 265 5 (i2l (pS (aI h17 266) x1 2))) 265 6 (i2l (aI h17 266 3))) 265 7 (0 : Int64)) 265 8 (i2l (pc4 (iand (pIn (aI h17 266) (pS (aI h 266) x1 0)) (ixr (shl 1 (iand x1 31)) (-1)))))) 265 9 (i2l (pS (aI h17 266) x1 3))) 265 10 (i2l (pS (aI h17 266) x1 4))) (p := x1) C_h17 (by omega) (by first | exact k32 | (simp only [aI_wAL, fI_wAL, aL_wA, aL_wF, aI_wA_ne, aI_wF_ne, fI_wA_ne, fI_wF_ne, fI_wF_nk, aL_wAL_ne, Nat.add_left_cancel_iff, Nat.add_eq_left, Nat.left_eq_add, not_false_eq_true, Nat.reduceEqDiff]; exact k32)) (by first | exact k58 | (simp only [aI_wAL, fI_wAL, aL_wA, aL_wF, aI_wA_ne, aI_wF_ne, fI_wA_ne, fI_wF_ne, fI_wF_nk, aL_wAL_ne, Nat.add_left_cancel_iff, Nat.add_eq_left, Nat.left_eq_add, not_false_eq_true, Nat.reduceEqDiff]; exact k58)) ?_
    intro h56 s59 p60
    try simp only [aI_wAL, fI_wAL, aL_wA, aL_wF, aI_wA_ne, aI_wF_ne, fI_wA_ne, fI_wF_ne, fI_wF_nk, aL_wAL_ne, Nat.add_left_cancel_iff, Nat.add_eq_left, Nat.left_eq_add, not_false_eq_true, Nat.reduceEqDiff] at p60
    replace w := w h56 s59 p60
    refine ⟨_, rfl, ?_⟩
    have C_h56 := Lay_SH s59 C_h17
    try simp only [aI_wAL, fI_wAL, aL_wA, aL_wF, aI_wA_ne, aI_wF_ne, fI_wA_ne, fI_wF_ne, fI_wF_nk, aL_wAL_ne, J_sameA, J_sameF, aL_same, Nat.add_left_cancel_iff, Nat.add_eq_left, Nat.left_eq_add, not_false_eq_true, Nat.reduceEqDiff, Nat.reduceAdd, J_add, J_sub, J_mul, J_neg, J_and, J_or, J_xor, J_shl, J_shr, J_div, J_i2b, J_i2l, J_l2i, J_lcm, J_max, J_min, J_nab, J_nao, rdA, rdF, rdL, wA_fold, wF_fold, wL_fold, wC_fold]
    refine ⟨congrArg Prod.fst (ls265 C_h56), ixs (ls265 C_h56) (by decide) (by decide), ?_⟩
    exact w
  · have t34 : (nightP (aI h17 266)) := (Classical.byContradiction fun n => c33 ((bI0 _).mpr n))
    replace w := w.2 t34
    refine ⟨congrArg Prod.fst (ls265 C_h17), ixs (ls265 C_h17) (by decide) (by decide), ?_⟩
    refine ⟨(ls256 C_h17), _, (lr256_19 C_h17), ?_⟩
    refine ⟨(ls256 C_h17), ?_⟩
    obtain ⟨k65, w⟩ := w
    refine m224 (h := wAL (wAL (wAL (wAL h17 265 4 (i2l (lft (aI h 266) (nightP (aI h 266)) (pS (aI h 266) x1 0) (pS (aI h 266) x1 1)))) 265 5 (i2l (pS (aI h17 266) x1 2))) 265 6 (i2l (aI h17 266 3))) 265 7 (1 : Int64)) (r := (pS (aI h 266) x1 0)) C_h17 (by omega) (by first | exact k32 | (simp only [aI_wAL, fI_wAL, aL_wA, aL_wF, aI_wA_ne, aI_wF_ne, fI_wA_ne, fI_wF_ne, fI_wF_nk, aL_wAL_ne, Nat.add_left_cancel_iff, Nat.add_eq_left, Nat.left_eq_add, not_false_eq_true, Nat.reduceEqDiff]; exact k32)) (by first | exact k65 | (simp only [aI_wAL, fI_wAL, aL_wA, aL_wF, aI_wA_ne, aI_wF_ne, fI_wA_ne, fI_wF_ne, fI_wF_nk, aL_wAL_ne, Nat.add_left_cancel_iff, Nat.add_eq_left, Nat.left_eq_add, not_false_eq_true, Nat.reduceEqDiff]; exact k65)) ?_
    refine ⟨_, rfl, ?_⟩
    try simp only [aI_wAL, fI_wAL, aL_wA, aL_wF, aI_wA_ne, aI_wF_ne, fI_wA_ne, fI_wF_ne, fI_wF_nk, aL_wAL_ne, J_sameA, J_sameF, aL_same, Nat.add_left_cancel_iff, Nat.add_eq_left, Nat.left_eq_add, not_false_eq_true, Nat.reduceEqDiff, Nat.reduceAdd, J_add, J_sub, J_mul, J_neg, J_and, J_or, J_xor, J_shl, J_shr, J_div, J_i2b, J_i2l, J_l2i, J_lcm, J_max, J_min, J_nab, J_nao, rdA, rdF, rdL, wA_fold, wF_fold, wL_fold, wC_fold]
    obtain ⟨k69, w⟩ := w
    refine m236 (h := wAL (wAL (wAL (wAL h17 265 4 (i2l (lft (aI h 266) (nightP (aI h 266)) (pS (aI h 266) x1 0) (pS (aI h 266) x1 1)))) 265 5 (i2l (pS (aI h17 266) x1 2))) 265 6 (i2l (aI h17 266 3))) 265 7 (1 : Int64)) (s := (iand (pIn (aI h17 266) (pS (aI h 266) x1 0)) (ixr (shl 1 (iand x1 31)) (-1)))) C_h17 (by omega) (by first | exact k69 | (simp only [aI_wAL, fI_wAL, aL_wA, aL_wF, aI_wA_ne, aI_wF_ne, fI_wA_ne, fI_wF_ne, fI_wF_nk, aL_wAL_ne, Nat.add_left_cancel_iff, Nat.add_eq_left, Nat.left_eq_add, not_false_eq_true, Nat.reduceEqDiff]; exact k69)) ?_
    refine ⟨_, rfl, ?_⟩
    try simp only [aI_wAL, fI_wAL, aL_wA, aL_wF, aI_wA_ne, aI_wF_ne, fI_wA_ne, fI_wF_ne, fI_wF_nk, aL_wAL_ne, J_sameA, J_sameF, aL_same, Nat.add_left_cancel_iff, Nat.add_eq_left, Nat.left_eq_add, not_false_eq_true, Nat.reduceEqDiff, Nat.reduceAdd, J_add, J_sub, J_mul, J_neg, J_and, J_or, J_xor, J_shl, J_shr, J_div, J_i2b, J_i2l, J_l2i, J_lcm, J_max, J_min, J_nab, J_nao, rdA, rdF, rdL, wA_fold, wF_fold, wL_fold, wC_fold]
    refine ⟨congrArg Prod.fst (ls265 C_h17), ixs (ls265 C_h17) (by decide) (by decide), ?_⟩
    refine ⟨(ls256 C_h17), _, (lr256_19 C_h17), ?_⟩
    refine ⟨(ls256 C_h17), ?_⟩
    obtain ⟨k74, w⟩ := w
    refine m209 (h := wAL (wAL (wAL (wAL (wAL h17 265 4 (i2l (lft (aI h 266) (nightP (aI h 266)) (pS (aI h 266) x1 0) (pS (aI h 266) x1 1)))) 265 5 (i2l (pS (aI h17 266) x1 2))) 265 6 (i2l (aI h17 266 3))) 265 7 (1 : Int64)) 265 8 (i2l (pc4 (iand (pIn (aI h17 266) (pS (aI h 266) x1 0)) (ixr (shl 1 (iand x1 31)) (-1)))))) (p := x1) (w := 3) C_h17 (by omega) (by first | exact k74 | (simp only [aI_wAL, fI_wAL, aL_wA, aL_wF, aI_wA_ne, aI_wF_ne, fI_wA_ne, fI_wF_ne, fI_wF_nk, aL_wAL_ne, Nat.add_left_cancel_iff, Nat.add_eq_left, Nat.left_eq_add, not_false_eq_true, Nat.reduceEqDiff]; exact k74)) ?_
    refine ⟨_, rfl, ?_⟩
    try simp only [aI_wAL, fI_wAL, aL_wA, aL_wF, aI_wA_ne, aI_wF_ne, fI_wA_ne, fI_wF_ne, fI_wF_nk, aL_wAL_ne, J_sameA, J_sameF, aL_same, Nat.add_left_cancel_iff, Nat.add_eq_left, Nat.left_eq_add, not_false_eq_true, Nat.reduceEqDiff, Nat.reduceAdd, J_add, J_sub, J_mul, J_neg, J_and, J_or, J_xor, J_shl, J_shr, J_div, J_i2b, J_i2l, J_l2i, J_lcm, J_max, J_min, J_nab, J_nao, rdA, rdF, rdL, wA_fold, wF_fold, wL_fold, wC_fold]
    refine ⟨congrArg Prod.fst (ls265 C_h17), ixs (ls265 C_h17) (by decide) (by decide), ?_⟩
    refine ⟨(ls256 C_h17), _, (lr256_19 C_h17), ?_⟩
    refine ⟨(ls256 C_h17), ?_⟩
    obtain ⟨k79, w⟩ := w
    refine m209 (h := wAL (wAL (wAL (wAL (wAL (wAL h17 265 4 (i2l (lft (aI h 266) (nightP (aI h 266)) (pS (aI h 266) x1 0) (pS (aI h 266) x1 1)))) 265 5 (i2l (pS (aI h17 266) x1 2))) 265 6 (i2l (aI h17 266 3))) 265 7 (1 : Int64)) 265 8 (i2l (pc4 (iand (pIn (aI h17 266) (pS (aI h 266) x1 0)) (ixr (shl 1 (iand x1 31)) (-1)))))) 265 9 (i2l (pS (aI h17 266) x1 3))) (p := x1) (w := 4) C_h17 (by omega) (by first | exact k79 | (simp only [aI_wAL, fI_wAL, aL_wA, aL_wF, aI_wA_ne, aI_wF_ne, fI_wA_ne, fI_wF_ne, fI_wF_nk, aL_wAL_ne, Nat.add_left_cancel_iff, Nat.add_eq_left, Nat.left_eq_add, not_false_eq_true, Nat.reduceEqDiff]; exact k79)) ?_
    refine ⟨_, rfl, ?_⟩
    try simp only [aI_wAL, fI_wAL, aL_wA, aL_wF, aI_wA_ne, aI_wF_ne, fI_wA_ne, fI_wF_ne, fI_wF_nk, aL_wAL_ne, J_sameA, J_sameF, aL_same, Nat.add_left_cancel_iff, Nat.add_eq_left, Nat.left_eq_add, not_false_eq_true, Nat.reduceEqDiff, Nat.reduceAdd, J_add, J_sub, J_mul, J_neg, J_and, J_or, J_xor, J_shl, J_shr, J_div, J_i2b, J_i2l, J_l2i, J_lcm, J_max, J_min, J_nab, J_nao, rdA, rdF, rdL, wA_fold, wF_fold, wL_fold, wC_fold]
    refine ⟨congrArg Prod.fst (ls265 C_h17), ixs (ls265 C_h17) (by decide) (by decide), ?_⟩
    refine ⟨(ls256 C_h17), _, (lr256_19 C_h17), ?_⟩
    refine ⟨(ls256 C_h17), ?_⟩
    obtain ⟨k84, w⟩ := w
    refine m237 (h := wAL (wAL (wAL (wAL (wAL (wAL (wAL h17 265 4 (i2l (lft (aI h 266) (nightP (aI h 266)) (pS (aI h 266) x1 0) (pS (aI h 266) x1 1)))) 265 5 (i2l (pS (aI h17 266) x1 2))) 265 6 (i2l (aI h17 266 3))) 265 7 (1 : Int64)) 265 8 (i2l (pc4 (iand (pIn (aI h17 266) (pS (aI h 266) x1 0)) (ixr (shl 1 (iand x1 31)) (-1)))))) 265 9 (i2l (pS (aI h17 266) x1 3))) 265 10 (i2l (pS (aI h17 266) x1 4))) (p := x1) C_h17 (by omega) (by first | exact k32 | (simp only [aI_wAL, fI_wAL, aL_wA, aL_wF, aI_wA_ne, aI_wF_ne, fI_wA_ne, fI_wF_ne, fI_wF_nk, aL_wAL_ne, Nat.add_left_cancel_iff, Nat.add_eq_left, Nat.left_eq_add, not_false_eq_true, Nat.reduceEqDiff]; exact k32)) (by first | exact k84 | (simp only [aI_wAL, fI_wAL, aL_wA, aL_wF, aI_wA_ne, aI_wF_ne, fI_wA_ne, fI_wF_ne, fI_wF_nk, aL_wAL_ne, Nat.add_left_cancel_iff, Nat.add_eq_left, Nat.left_eq_add, not_false_eq_true, Nat.reduceEqDiff]; exact k84)) ?_
    intro h82 s85 p86
    try simp only [aI_wAL, fI_wAL, aL_wA, aL_wF, aI_wA_ne, aI_wF_ne, fI_wA_ne, fI_wF_ne, fI_wF_nk, aL_wAL_ne, Nat.add_left_cancel_iff, Nat.add_eq_left, Nat.left_eq_add, not_false_eq_true, Nat.reduceEqDiff] at p86
    replace w := w h82 s85 p86
    refine ⟨_, rfl, ?_⟩
    have C_h82 := Lay_SH s85 C_h17
    try simp only [aI_wAL, fI_wAL, aL_wA, aL_wF, aI_wA_ne, aI_wF_ne, fI_wA_ne, fI_wF_ne, fI_wF_nk, aL_wAL_ne, J_sameA, J_sameF, aL_same, Nat.add_left_cancel_iff, Nat.add_eq_left, Nat.left_eq_add, not_false_eq_true, Nat.reduceEqDiff, Nat.reduceAdd, J_add, J_sub, J_mul, J_neg, J_and, J_or, J_xor, J_shl, J_shr, J_div, J_i2b, J_i2l, J_l2i, J_lcm, J_max, J_min, J_nab, J_nao, rdA, rdF, rdL, wA_fold, wF_fold, wL_fold, wC_fold]
    refine ⟨congrArg Prod.fst (ls265 C_h82), ixs (ls265 C_h82) (by decide) (by decide), ?_⟩
    exact w
theorem i2l_bI (t : Prop) : i2l (bI t) = if bI t = 1 then 1 else 0 := by
  rcases bI_or t with h | h <;> rw [h] <;> decide
theorem m235 {X : Cst} {d : Nat} {p : Int} {h : AH} {Q : Post} (C : Lay h) (hd : 8 ≤ d) (W : WF 999 (aI h 266)) (hp : 0 ≤ p ∧ p < aI h 266 2)
    (k : ∀ h', SH h h' → (Fr (fun c _ => c = 265 ∨ c = 267) h h' ∧ ∀ k, 0 ≤ k → k < 12 → aL h' 265 k = i2l (wd (aI h 266) (nightP (aI h 266)) p k)) → Q none h') : Ex X PG d 235 0 [some (.ref 256), some (.int (J p)), none] [] h Q := by
  obtain ⟨d, rfl⟩ : ∃ e, d = e + 1 := ⟨d - 1, by omega⟩
  have b := W.1
  unfold WFb at b
  have pp := W.2.1 p hp.1 hp.2
  obtain ⟨hb, he⟩ := here_eq W hp
  have fin : ∀ (h17 h56 : AH) (v : Int64), v = i2l (bI (nightP (aI h 266))) → Fr (fun c _ => c = 267) (wAL (wAL (wAL (wAL h 265 0 (i2l p)) 265 1 (i2l (pS (aI h 266) p 0))) 265 2 (i2l (aI h 266 (34 + (pS (aI h 266) p 0))))) 265 3 (i2l (pS (aI h 266) p 1))) h17 →
      Fr (fun c _ => c = 267) (wAL (wAL (wAL (wAL (wAL (wAL (wAL h17 265 4 (i2l (lft (aI h 266) (nightP (aI h 266)) (pS (aI h 266) p 0) (pS (aI h 266) p 1)))) 265 5 (i2l (pS (aI h 266) p 2))) 265 6 (i2l (aI h 266 3))) 265 7 v) 265 8 (i2l (hereP (aI h 266) p))) 265 9 (i2l (pS (aI h 266) p 3))) 265 10 (i2l (pS (aI h 266) p 4))) h56 →
      Q none (wAL h56 265 11 (i2l (askd (aI h 266) (nightP (aI h 266)) p))) := by
    intro h17 h56 v hv F1 F2
    have l1 := F1.l 265 (fun _ => by decide)
    have l2 := F2.l 265 (fun _ => by decide)
    have G1 : Fr (fun c _ => c = 265 ∨ c = 267) h h17 := ((((Fr.rf (T := fun c _ => c = 265 ∨ c = 267)).wAL (Or.inl rfl)).wAL (Or.inl rfl)).wAL (Or.inl rfl)).wAL (Or.inl rfl) |>.tr (F1.mo fun c _ z => Or.inr z)
    have G2 : Fr (fun c _ => c = 265 ∨ c = 267) h h56 := (((((((G1.wAL (Or.inl rfl)).wAL (Or.inl rfl)).wAL (Or.inl rfl)).wAL (Or.inl rfl)).wAL (Or.inl rfl)).wAL (Or.inl rfl)).wAL (Or.inl rfl)).tr (F2.mo fun c _ z => Or.inr z)
    refine k _ G2.1 ⟨G2.wAL (Or.inl rfl), fun j h1 h2 => ?_⟩
    rw [aL_wAL, l2]
    simp only [aL_wAL]
    rw [l1]
    simp only [aL_wAL]
    subst hv
    have : j = 0 ∨ j = 1 ∨ j = 2 ∨ j = 3 ∨ j = 4 ∨ j = 5 ∨ j = 6 ∨ j = 7 ∨ j = 8 ∨ j = 9 ∨ j = 10 ∨ j = 11 := by omega
    rcases this with rfl | rfl | rfl | rfl | rfl | rfl | rfl | rfl | rfl | rfl | rfl | rfl <;> (repeat (first | rw [uuL_eq] | rw [uuL_ne (by decide) (by decide) (by decide)])) <;> rfl
  refine r235_0 C (by omega) ⟨by omega, by omega, by omega, W, hp, fun h17 s1 p1 => ?_⟩
  have e1 : aI h17 266 = aI h 266 := p1.1.a 266 (fun _ => by decide)
  rw [e1, he]
  refine ⟨by omega, W, fun c => ⟨by omega, by omega, by omega, by omega, hp, fun h56 s2 p2 => ?_⟩, fun c => ⟨by omega, by omega, by omega, by omega, hp, fun h56 s2 p2 => ?_⟩⟩
  · exact fin h17 h56 _ (by rw [bI_neg c]; rfl) p1.1 p2
  · exact fin h17 h56 _ (by rw [bI_pos c]; rfl) p1.1 p2
