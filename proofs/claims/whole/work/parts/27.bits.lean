/-! BITS of small numbers. -/
theorem J_nat (n : Nat) : J (n : Int) = Int32.ofNat n := Int32.ofInt_eq_ofNat
theorem toInt_nat {n : Nat} (h : n < 2147483648) : ((BitVec.ofNat 32 n).toInt : Int) = n := by
  rw [BitVec.toInt_eq_toNat_of_lt (by rw [BitVec.toNat_ofNat]; omega), BitVec.toNat_ofNat]
  omega
theorem iand_nat {m n : Nat} (h : m < 2147483648) : iand m n = ((m &&& n : Nat) : Int) := by
  unfold iand
  rw [J_nat, J_nat]
  show (BitVec.ofNat 32 m &&& BitVec.ofNat 32 n).toInt = _
  rw [← BitVec.ofNat_and, toInt_nat]
  exact Nat.lt_of_le_of_lt Nat.and_le_left h
theorem ior_nat {m n : Nat} (h : m < 2147483648) (h' : n < 2147483648) : ior m n = ((m ||| n : Nat) : Int) := by
  unfold ior
  rw [J_nat, J_nat]
  show (BitVec.ofNat 32 m ||| BitVec.ofNat 32 n).toInt = _
  rw [← BitVec.ofNat_or, toInt_nat]
  exact Nat.or_lt_two_pow (n := 31) h h'
theorem ixr_nat {m n : Nat} (h : m < 2147483648) (h' : n < 2147483648) : ixr m n = ((m ^^^ n : Nat) : Int) := by
  unfold ixr
  rw [J_nat, J_nat]
  show (BitVec.ofNat 32 m ^^^ BitVec.ofNat 32 n).toInt = _
  rw [← BitVec.ofNat_xor, toInt_nat]
  exact Nat.xor_lt_two_pow (n := 31) h h'
/-- a and not m -/
theorem iandn_nat {a m : Nat} (h : a < 2147483648) : iand a (ixr m (-1)) = ((a &&& (m ^^^ 4294967295) : Nat) : Int) := by
  unfold iand ixr
  rw [J_toInt, J_nat, J_nat, show J (-1) = Int32.ofNat 4294967295 from rfl]
  show (BitVec.ofNat 32 a &&& (BitVec.ofNat 32 m ^^^ BitVec.ofNat 32 4294967295)).toInt = _
  rw [← BitVec.ofNat_xor, ← BitVec.ofNat_and, toInt_nat]
  exact Nat.lt_of_le_of_lt Nat.and_le_left h
theorem shr_l {s : Int} (g : -2147483648 ≤ s ∧ s < 2147483648) {k : Int} {n : Nat} (e : ((J (iand k 31)).toBitVec.smod 32).toNat = n) : shr s (iand k 31) = s / 2 ^ n := by
  show (BitVec.sshiftRight (J s).toBitVec ((J (iand k 31)).toBitVec.smod 32).toNat).toInt = _
  rw [e, BitVec.toInt_sshiftRight, show (J s).toBitVec.toInt = s from toInt_J g, Int.shiftRight_eq_div_pow]
  rfl
theorem shr_e {s k : Int} (g : -2147483648 ≤ s ∧ s < 2147483648) (h : 0 ≤ k ∧ k < 16) : shr s (iand k 31) = s / 2 ^ k.toNat := by
  have : k = 0 ∨ k = 1 ∨ k = 2 ∨ k = 3 ∨ k = 4 ∨ k = 5 ∨ k = 6 ∨ k = 7 ∨ k = 8 ∨ k = 9 ∨ k = 10 ∨ k = 11 ∨ k = 12 ∨ k = 13 ∨ k = 14 ∨ k = 15 := by omega
  rcases this with rfl | rfl | rfl | rfl | rfl | rfl | rfl | rfl | rfl | rfl | rfl | rfl | rfl | rfl | rfl | rfl <;> exact shr_l g (by decide)
theorem shr_nat {s : Nat} (g : s < 2147483648) {k : Int} (h : 0 ≤ k ∧ k < 16) : shr s (iand k 31) = ((s >>> k.toNat : Nat) : Int) := by
  rw [shr_e ⟨by omega, by omega⟩ h, Nat.shiftRight_eq_div_pow]
  have : ((2 ^ k.toNat : Nat) : Int) = 2 ^ k.toNat := by simp
  rw [← this]
  exact (Int.natCast_ediv _ _).symm
theorem shl_1 {k : Int} (h : 0 ≤ k ∧ k < 31) : shl 1 (iand k 31) = ((2 ^ k.toNat : Nat) : Int) := by
  have : k = 0 ∨ k = 1 ∨ k = 2 ∨ k = 3 ∨ k = 4 ∨ k = 5 ∨ k = 6 ∨ k = 7 ∨ k = 8 ∨ k = 9 ∨ k = 10 ∨ k = 11 ∨ k = 12 ∨ k = 13 ∨ k = 14 ∨ k = 15 ∨ k = 16 ∨ k = 17 ∨ k = 18 ∨ k = 19 ∨ k = 20 ∨ k = 21 ∨ k = 22 ∨ k = 23 ∨ k = 24 ∨ k = 25 ∨ k = 26 ∨ k = 27 ∨ k = 28 ∨ k = 29 ∨ k = 30 := by omega
  rcases this with rfl | rfl | rfl | rfl | rfl | rfl | rfl | rfl | rfl | rfl | rfl | rfl | rfl | rfl | rfl | rfl | rfl | rfl | rfl | rfl | rfl | rfl | rfl | rfl | rfl | rfl | rfl | rfl | rfl | rfl | rfl <;> decide
/-- the bits of a set's number -/
def bt (s k : Int) : Prop := s.toNat.testBit k.toNat = true
theorem isof_iff {s k : Int} (g : 0 ≤ s ∧ s < 2147483648) (h : 0 ≤ k ∧ k < 16) : iand (shr s (iand k 31)) 1 = 1 ↔ bt s k := by
  obtain ⟨n, rfl⟩ := Int.eq_ofNat_of_zero_le g.1
  rw [shr_nat (by omega) h, show (1 : Int) = ((1 : Nat) : Int) from rfl, iand_nat (by have := Nat.shiftRight_le n k.toNat; omega)]
  unfold bt
  rw [Int.toNat_natCast, Nat.testBit]
  rw [Nat.and_comm]
  constructor
  · intro e
    have : 1 &&& n >>> k.toNat = 1 := by omega
    rw [this]; rfl
  · intro e
    have : 1 &&& n >>> k.toNat ≤ 1 := Nat.and_le_left
    have q : 1 &&& n >>> k.toNat ≠ 0 := by simpa using e
    omega
/-- the number whose bits below n are those of P -/
noncomputable def bset : Nat → (Nat → Prop) → Nat
  | 0, _ => 0
  | n + 1, P => bset n P + @ite Nat (P n) (Classical.propDecidable _) (2 ^ n) 0
theorem bset_lt (P : Nat → Prop) : ∀ n, bset n P < 2 ^ n := by
  intro n
  induction n with
  | zero => unfold bset; decide
  | succ n ih =>
    unfold bset
    rw [Nat.pow_succ]
    by_cases h : P n
    · rw [if_pos h]; omega
    · rw [if_neg h]; omega
theorem bset_bit (P : Nat → Prop) : ∀ n k, (bset n P).testBit k = true ↔ k < n ∧ P k := by
  intro n
  induction n with
  | zero => intro k; unfold bset; simp
  | succ n ih =>
    intro k
    have l := bset_lt P n
    unfold bset
    by_cases h : P n
    · rw [if_pos h, Nat.add_comm]
      by_cases q : k = n
      · subst q
        rw [Nat.testBit_two_pow_add_eq, Nat.testBit_lt_two_pow l]
        exact ⟨fun _ => ⟨by omega, h⟩, fun _ => rfl⟩
      · by_cases q2 : k < n
        · rw [Nat.testBit_two_pow_add_gt q2, ih]
          exact ⟨fun z => ⟨by omega, z.2⟩, fun z => ⟨q2, z.2⟩⟩
        · have : (2 ^ n + bset n P).testBit k = false := by
            apply Nat.testBit_lt_two_pow
            have : 2 ^ (n + 1) ≤ 2 ^ k := Nat.pow_le_pow_right (by decide) (by omega)
            rw [Nat.pow_succ] at this
            omega
          rw [this]
          exact ⟨fun z => absurd z (by decide), fun z => by omega⟩
    · rw [if_neg h, Nat.add_zero, ih]
      refine ⟨fun z => ⟨by omega, z.2⟩, fun z => ⟨?_, z.2⟩⟩
      by_cases q : k = n
      · subst q; exact absurd z.2 h
      · omega
theorem bset_eq {s n : Nat} {P : Nat → Prop} (h : ∀ k, s.testBit k = true ↔ k < n ∧ P k) : s = bset n P := by
  refine Nat.eq_of_testBit_eq fun i => ?_
  have a := (h i).trans (bset_bit P n i).symm
  cases x : s.testBit i <;> cases y : (bset n P).testBit i
  · rfl
  · rw [x, y] at a; exact absurd (a.mpr rfl) (by decide)
  · rw [x, y] at a; exact absurd (a.mp rfl) (by decide)
  · rfl
theorem bset_cong {n : Nat} {P R : Nat → Prop} (h : ∀ k, k < n → (P k ↔ R k)) : bset n P = bset n R := by
  refine bset_eq fun k => ?_
  rw [bset_bit]
  exact ⟨fun z => ⟨z.1, (h k z.1).mp z.2⟩, fun z => ⟨z.1, (h k z.1).mpr z.2⟩⟩
/-- one bit more at the top -/
theorem bset_or {n : Nat} {P : Nat → Prop} (h : P n) : bset n P ||| 2 ^ n = bset (n + 1) P := by
  refine bset_eq fun k => ?_
  rw [Nat.testBit_or, Nat.testBit_two_pow]
  have := bset_bit P n k
  by_cases q : n = k
  · subst q; simp [h]
  · have e : decide (n = k) = false := decide_eq_false q
    rw [e, Bool.or_false, this]
    exact ⟨fun z => ⟨by omega, z.2⟩, fun z => ⟨by omega, z.2⟩⟩
theorem bset_no {n : Nat} {P : Nat → Prop} (h : ¬ P n) : bset n P = bset (n + 1) P := by
  show _ = bset n P + _
  rw [if_neg h]; rfl
theorem bset_lt16 (P : Nat → Prop) : bset 4 P < 16 := bset_lt P 4
theorem bset_ext {n m : Nat} {P : Nat → Prop} (l : n ≤ m) (h : ∀ k, n ≤ k → k < m → ¬ P k) : bset n P = bset m P := by
  refine bset_eq fun k => ?_
  rw [bset_bit]
  refine ⟨fun z => ⟨by omega, z.2⟩, fun z => ⟨?_, z.2⟩⟩
  by_cases q : k < n
  · exact q
  · exact absurd z.2 (h k (by omega) z.1)
