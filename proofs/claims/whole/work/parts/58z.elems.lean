/-! printed by wip/gen/red.py: elements of the rows of references -/
theorem Lay_e15 {h : AH} {i : Int} (C : Lay h) (hi : 0 ≤ i ∧ i < 6) : RuleAt h (16 + 5 * Int.toNat i) := by
  have : i = 0 ∨ i = 1 ∨ i = 2 ∨ i = 3 ∨ i = 4 ∨ i = 5 := by omega
  rcases this with rfl | rfl | rfl | rfl | rfl | rfl
  · exact RuleAt_16 C
  · exact RuleAt_21 C
  · exact RuleAt_26 C
  · exact RuleAt_31 C
  · exact RuleAt_36 C
  · exact RuleAt_41 C
set_option maxRecDepth 20000 in
theorem Lay_r15 {h : AH} {i : Int} (C : Lay h) (hi : 0 ≤ i ∧ i < 6) : hR h 15 (Int32.toNatClampNeg (J i)) = some (16 + 5 * Int.toNat i) := by
  have : i = 0 ∨ i = 1 ∨ i = 2 ∨ i = 3 ∨ i = 4 ∨ i = 5 := by omega
  rcases this with rfl | rfl | rfl | rfl | rfl | rfl
  · exact lr15_0 C
  · exact lr15_1 C
  · exact lr15_2 C
  · exact lr15_3 C
  · exact lr15_4 C
  · exact lr15_5 C
theorem Lay_e120 {h : AH} {i : Int} (C : Lay h) (hi : 0 ≤ i ∧ i < 20) : WorldAt h (121 + 6 * Int.toNat i) := by
  have : i = 0 ∨ i = 1 ∨ i = 2 ∨ i = 3 ∨ i = 4 ∨ i = 5 ∨ i = 6 ∨ i = 7 ∨ i = 8 ∨ i = 9 ∨ i = 10 ∨ i = 11 ∨ i = 12 ∨ i = 13 ∨ i = 14 ∨ i = 15 ∨ i = 16 ∨ i = 17 ∨ i = 18 ∨ i = 19 := by omega
  rcases this with rfl | rfl | rfl | rfl | rfl | rfl | rfl | rfl | rfl | rfl | rfl | rfl | rfl | rfl | rfl | rfl | rfl | rfl | rfl | rfl
  · exact WorldAt_121 C
  · exact WorldAt_127 C
  · exact WorldAt_133 C
  · exact WorldAt_139 C
  · exact WorldAt_145 C
  · exact WorldAt_151 C
  · exact WorldAt_157 C
  · exact WorldAt_163 C
  · exact WorldAt_169 C
  · exact WorldAt_175 C
  · exact WorldAt_181 C
  · exact WorldAt_187 C
  · exact WorldAt_193 C
  · exact WorldAt_199 C
  · exact WorldAt_205 C
  · exact WorldAt_211 C
  · exact WorldAt_217 C
  · exact WorldAt_223 C
  · exact WorldAt_229 C
  · exact WorldAt_235 C
set_option maxRecDepth 20000 in
theorem Lay_r120 {h : AH} {i : Int} (C : Lay h) (hi : 0 ≤ i ∧ i < 20) : hR h 120 (Int32.toNatClampNeg (J i)) = some (121 + 6 * Int.toNat i) := by
  have : i = 0 ∨ i = 1 ∨ i = 2 ∨ i = 3 ∨ i = 4 ∨ i = 5 ∨ i = 6 ∨ i = 7 ∨ i = 8 ∨ i = 9 ∨ i = 10 ∨ i = 11 ∨ i = 12 ∨ i = 13 ∨ i = 14 ∨ i = 15 ∨ i = 16 ∨ i = 17 ∨ i = 18 ∨ i = 19 := by omega
  rcases this with rfl | rfl | rfl | rfl | rfl | rfl | rfl | rfl | rfl | rfl | rfl | rfl | rfl | rfl | rfl | rfl | rfl | rfl | rfl | rfl
  · exact lr120_0 C
  · exact lr120_1 C
  · exact lr120_2 C
  · exact lr120_3 C
  · exact lr120_4 C
  · exact lr120_5 C
  · exact lr120_6 C
  · exact lr120_7 C
  · exact lr120_8 C
  · exact lr120_9 C
  · exact lr120_10 C
  · exact lr120_11 C
  · exact lr120_12 C
  · exact lr120_13 C
  · exact lr120_14 C
  · exact lr120_15 C
  · exact lr120_16 C
  · exact lr120_17 C
  · exact lr120_18 C
  · exact lr120_19 C
theorem h5o {h : AH} {q t n : Nat} (e : hs h q = (t, n)) (c : 5 ≤ t) : 5 ≤ (hs h q).1 := by rw [e]; exact c
