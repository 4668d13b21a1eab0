/-! THREE BITS A ROOM. -/
theorem or_lo {a b k : Nat} (h : a < 2 ^ k) : a ||| 2 ^ k * b = 2 ^ k * b + a := by
  rw [Nat.or_comm]; exact (Nat.two_pow_add_eq_or_of_lt h b).symm
theorem clr3 {s k : Nat} (hs' : s < 2147483648) (hk : k + 3 ≤ 31) : s &&& ((7 <<< k) ^^^ 4294967295) = 2 ^ (k + 3) * (s / 2 ^ (k + 3)) + s % 2 ^ k := by
  have lt : s % 2 ^ k < 2 ^ (k + 3) := Nat.lt_of_lt_of_le (Nat.mod_lt _ (Nat.two_pow_pos k)) (Nat.pow_le_pow_right (by decide) (by omega))
  refine Nat.eq_of_testBit_eq fun j => ?_
  rw [Nat.testBit_and, Nat.testBit_xor, Nat.testBit_shiftLeft, Nat.testBit_two_pow_mul_add _ lt, Nat.testBit_mod_two_pow, Nat.testBit_div_two_pow, show (7 : Nat) = 2 ^ 3 - 1 by decide, show (4294967295 : Nat) = 2 ^ 32 - 1 by decide, Nat.testBit_two_pow_sub_one, Nat.testBit_two_pow_sub_one]
  by_cases c1 : j < k
  · rw [if_pos (by omega)]
    simp [c1, show ¬ k ≤ j by omega, show j < 32 by omega]
  · by_cases c2 : j < k + 3
    · rw [if_pos c2]
      simp [c1, show k ≤ j by omega, show j - k < 3 by omega, show j < 32 by omega]
    · rw [if_neg c2, show j - (k + 3) + (k + 3) = j by omega]
      by_cases c3 : j < 32
      · simp [show k ≤ j by omega, show ¬ j - k < 3 by omega, c3]
      · have : s.testBit j = false := Nat.testBit_lt_two_pow (Nat.lt_of_lt_of_le hs' (show 2147483648 ≤ 2 ^ j from Nat.le_trans (show 2147483648 ≤ 2 ^ 31 by decide) (Nat.pow_le_pow_right (by decide) (by omega))))
        rw [this]; simp
theorem shl_l {a : Nat} {k : Int} {n : Nat} (e : ((J (iand k 31)).toBitVec.smod 32).toNat = n) (h : a * 2 ^ n < 2147483648) : shl a (iand k 31) = ((a * 2 ^ n : Nat) : Int) := by
  have a1 : a < 2147483648 := Nat.lt_of_le_of_lt (Nat.le_mul_of_pos_right a (Nat.two_pow_pos n)) h
  show (BitVec.shiftLeft (J (a : Int)).toBitVec ((J (iand k 31)).toBitVec.smod 32).toNat).toInt = _
  rw [e, J_nat]
  show ((BitVec.ofNat 32 a) <<< n).toInt = _
  have t : ((BitVec.ofNat 32 a) <<< n).toNat = a * 2 ^ n := by
    rw [BitVec.toNat_shiftLeft, BitVec.toNat_ofNat, Nat.mod_eq_of_lt (show a < 2 ^ 32 by omega), Nat.shiftLeft_eq, Nat.mod_eq_of_lt (by omega)]
  rw [BitVec.toInt_eq_toNat_of_lt (by rw [t]; omega), t]
theorem shl_p {a p : Int} (ha : 0 ≤ a ∧ a < 65536) (hp : 0 ≤ p ∧ p < 5) : shl a (iand (3 * p) 31) = a * 8 ^ p.toNat := by
  obtain ⟨n, rfl⟩ := Int.eq_ofNat_of_zero_le ha.1
  have : p = 0 ∨ p = 1 ∨ p = 2 ∨ p = 3 ∨ p = 4 := by omega
  rcases this with rfl | rfl | rfl | rfl | rfl
  · rw [shl_l (n := 0) (by decide) (by omega)]; show ((n * 2 ^ 0 : Nat) : Int) = n * 1; omega
  · rw [shl_l (n := 3) (by decide) (by omega)]; show ((n * 2 ^ 3 : Nat) : Int) = n * 8; omega
  · rw [shl_l (n := 6) (by decide) (by omega)]; show ((n * 2 ^ 6 : Nat) : Int) = n * 64; omega
  · rw [shl_l (n := 9) (by decide) (by omega)]; show ((n * 2 ^ 9 : Nat) : Int) = n * 512; omega
  · rw [shl_l (n := 12) (by decide) (by omega)]; show ((n * 2 ^ 12 : Nat) : Int) = n * 4096; omega
theorem and_m {s k : Nat} (hs' : s < 2147483648) : iand s ((2 ^ k - 1 : Nat) : Int) = ((s % 2 ^ k : Nat) : Int) := by
  rw [iand_nat hs', Nat.and_two_pow_sub_one_eq_mod]
theorem rmo {s p : Int} (hs' : 0 ≤ s ∧ s < 2147483648) (hp : 0 ≤ p ∧ p < 5) : iand (shr s (iand (3 * p) 31)) 7 = dgt 8 s p := by
  unfold dgt
  rw [if_pos (by decide)]
  have key : ∀ k : Nat, shr s (iand (3 * p) 31) = s / 2 ^ k → iand (shr s (iand (3 * p) 31)) 7 = s / 2 ^ k % 8 := by
    intro k e
    rw [e]
    have q0 : 0 ≤ s / 2 ^ k := Int.ediv_nonneg hs'.1 (Int.le_of_lt (Int.pow_pos (by decide)))
    have q1 : s / 2 ^ k ≤ s := Int.ediv_le_self _ hs'.1
    obtain ⟨n, hn⟩ := Int.eq_ofNat_of_zero_le q0
    rw [hn, show (7 : Int) = ((2 ^ 3 - 1 : Nat) : Int) from rfl, and_m (by omega)]
    show ((n % 8 : Nat) : Int) = (n : Int) % 8
    omega
  have g : -2147483648 ≤ s ∧ s < 2147483648 := by omega
  have : p = 0 ∨ p = 1 ∨ p = 2 ∨ p = 3 ∨ p = 4 := by omega
  rcases this with rfl | rfl | rfl | rfl | rfl
  · exact key 0 (shr_l (n := 0) g (by decide))
  · exact key 3 (shr_l (n := 3) g (by decide))
  · exact key 6 (shr_l (n := 6) g (by decide))
  · exact key 9 (shr_l (n := 9) g (by decide))
  · exact key 12 (shr_l (n := 12) g (by decide))
theorem mvo {s p r : Int} (hs' : 0 ≤ s ∧ s < 32768) (hp : 0 ≤ p ∧ p < 5) (hr : 0 ≤ r ∧ r < 8) : ior (iand s (ixr (shl 7 (iand (3 * p) 31)) (-1))) (shl r (iand (3 * p) 31)) = mvd 8 s p r := by
  unfold mvd
  rw [pwi_e (by decide) (by omega)]
  unfold dgt
  rw [if_pos (by decide), shl_p (a := r) (by omega) hp, shl_p (a := 7) (by decide) hp]
  obtain ⟨n, rfl⟩ := Int.eq_ofNat_of_zero_le hs'.1
  obtain ⟨u, rfl⟩ := Int.eq_ofNat_of_zero_le hr.1
  have key : ∀ k : Nat, k ≤ 12 → (2 ^ k : Nat) * 8 ≤ 32768 → ior (iand (n : Int) (ixr ((7 * 2 ^ k : Nat) : Int) (-1))) ((u * 2 ^ k : Nat) : Int) = ((2 ^ (k + 3) * (n / 2 ^ (k + 3)) + (2 ^ k * u + n % 2 ^ k) : Nat) : Int) := by
    intro k hk h8
    have m0 : n % 2 ^ k < 2 ^ k := Nat.mod_lt _ (Nat.two_pow_pos k)
    have mu : 2 ^ k * u + n % 2 ^ k < 2 ^ (k + 3) := by
      rw [Nat.pow_add]
      have : 2 ^ k * u ≤ 2 ^ k * 7 := Nat.mul_le_mul_left _ (by omega)
      omega
    have le : 2 ^ (k + 3) * (n / 2 ^ (k + 3)) ≤ n := Nat.mul_div_le _ _
    have ub : u * 2 ^ k ≤ 7 * 2 ^ k := Nat.mul_le_mul_right _ (by omega)
    rw [iandn_nat (by omega), ← Nat.shiftLeft_eq, clr3 (by omega) (by omega), ior_nat (by omega) (by omega)]
    congr 1
    rw [Nat.two_pow_add_eq_or_of_lt (Nat.lt_of_lt_of_le m0 (Nat.pow_le_pow_right (by decide) (by omega))), Nat.or_assoc, Nat.mul_comm u, or_lo m0, ← Nat.two_pow_add_eq_or_of_lt mu]
  have : p = 0 ∨ p = 1 ∨ p = 2 ∨ p = 3 ∨ p = 4 := by omega
  rcases this with rfl | rfl | rfl | rfl | rfl
  · have := key 0 (by decide) (by decide)
    show ior (iand (n : Int) (ixr 7 (-1))) ((u : Int) * 1) = (n : Int) + ((u : Int) - (n : Int) / 1 % 8) * 1
    rw [show ((7 * 2 ^ 0 : Nat) : Int) = 7 from rfl, show ((u * 2 ^ 0 : Nat) : Int) = (u : Int) * 1 by omega] at this
    rw [this]; omega
  · have := key 3 (by decide) (by decide)
    show ior (iand (n : Int) (ixr 56 (-1))) ((u : Int) * 8) = (n : Int) + ((u : Int) - (n : Int) / 8 % 8) * 8
    rw [show ((7 * 2 ^ 3 : Nat) : Int) = 56 from rfl, show ((u * 2 ^ 3 : Nat) : Int) = (u : Int) * 8 by omega] at this
    rw [this]; omega
  · have := key 6 (by decide) (by decide)
    show ior (iand (n : Int) (ixr 448 (-1))) ((u : Int) * 64) = (n : Int) + ((u : Int) - (n : Int) / 64 % 8) * 64
    rw [show ((7 * 2 ^ 6 : Nat) : Int) = 448 from rfl, show ((u * 2 ^ 6 : Nat) : Int) = (u : Int) * 64 by omega] at this
    rw [this]; omega
  · have := key 9 (by decide) (by decide)
    show ior (iand (n : Int) (ixr 3584 (-1))) ((u : Int) * 512) = (n : Int) + ((u : Int) - (n : Int) / 512 % 8) * 512
    rw [show ((7 * 2 ^ 9 : Nat) : Int) = 3584 from rfl, show ((u * 2 ^ 9 : Nat) : Int) = (u : Int) * 512 by omega] at this
    rw [this]; omega
  · have := key 12 (by decide) (by decide)
    show ior (iand (n : Int) (ixr 28672 (-1))) ((u : Int) * 4096) = (n : Int) + ((u : Int) - (n : Int) / 4096 % 8) * 4096
    rw [show ((7 * 2 ^ 12 : Nat) : Int) = 28672 from rfl, show ((u * 2 ^ 12 : Nat) : Int) = (u : Int) * 4096 by omega] at this
    rw [this]; omega
/-- a passing's label -/
def lbo (p d q : Int) : Int := p + 8 * d + 128 * (q + 1)
theorem lbo_e {p d q : Int} (hp : 0 ≤ p ∧ p < 8) (hd : 0 ≤ d ∧ d < 16) (hq : -1 ≤ q ∧ q < 7) : ior (ior p (shl d (iand 3 31))) (shl (q + 1) (iand 7 31)) = lbo p d q := by
  obtain ⟨a, rfl⟩ := Int.eq_ofNat_of_zero_le hp.1
  obtain ⟨b, rfl⟩ := Int.eq_ofNat_of_zero_le hd.1
  obtain ⟨c, hc⟩ := Int.eq_ofNat_of_zero_le (show 0 ≤ q + 1 by omega)
  rw [hc, shl_l (n := 3) (by decide) (by omega), shl_l (n := 7) (by decide) (by omega), ior_nat (by omega) (by omega), Nat.mul_comm b, or_lo (show a < 2 ^ 3 by omega), ior_nat (by omega) (by omega), Nat.mul_comm c, or_lo (show 2 ^ 3 * b + a < 2 ^ 7 by omega)]
  unfold lbo
  rw [hc]
  omega
theorem lbo_b {p d q : Int} (hp : 0 ≤ p ∧ p < 8) (hd : 0 ≤ d ∧ d < 16) (hq : -1 ≤ q ∧ q < 7) : 0 ≤ lbo p d q ∧ lbo p d q < 1024 := by unfold lbo; omega
/-- a state's mark -/
def mko (l f : Int) : Int := 33554432 + 32768 * l + f
theorem mko_e {l f : Int} (hl : 0 ≤ l ∧ l < 1024) (hf : 0 ≤ f ∧ f < 32768) : ior (ior 33554432 (shl l (iand 15 31))) f = mko l f := by
  obtain ⟨a, rfl⟩ := Int.eq_ofNat_of_zero_le hl.1
  obtain ⟨b, rfl⟩ := Int.eq_ofNat_of_zero_le hf.1
  rw [shl_l (n := 15) (by decide) (by omega), show (33554432 : Int) = ((33554432 : Nat) : Int) from rfl, ior_nat (by decide) (by omega)]
  have e1 : 33554432 ||| a * 2 ^ 15 = 2 ^ 15 * (1024 + a) := by
    rw [Nat.or_comm, show (33554432 : Nat) = 2 ^ 25 * 1 from rfl, or_lo (show a * 2 ^ 15 < 2 ^ 25 by omega)]; omega
  rw [e1, ior_nat (by omega) (by omega), Nat.or_comm, or_lo (show b < 2 ^ 15 by omega)]
  unfold mko
  omega
theorem mko_f {l f : Int} (hl : 0 ≤ l ∧ l < 1024) (hf : 0 ≤ f ∧ f < 32768) : iand (mko l f) 32767 = f := by
  obtain ⟨n, hn⟩ := Int.eq_ofNat_of_zero_le (show 0 ≤ mko l f by unfold mko; omega)
  have b : n < 2147483648 := by unfold mko at hn; omega
  rw [hn, show (32767 : Int) = ((2 ^ 15 - 1 : Nat) : Int) from rfl, and_m b]
  unfold mko at hn
  omega
theorem mko_l {l f : Int} (hl : 0 ≤ l ∧ l < 1024) (hf : 0 ≤ f ∧ f < 32768) : iand (shr (mko l f) (iand 15 31)) 1023 = l := by
  have mb : 0 ≤ mko l f ∧ mko l f < 2147483648 := by unfold mko; omega
  rw [shr_l (n := 15) (by omega) (by decide)]
  obtain ⟨n, hn⟩ := Int.eq_ofNat_of_zero_le (show 0 ≤ mko l f / 2 ^ 15 by omega)
  have b : n < 2147483648 := by omega
  rw [hn, show (1023 : Int) = ((2 ^ 10 - 1 : Nat) : Int) from rfl, and_m b]
  unfold mko at hn
  omega
theorem mko_p {l f : Int} (hl : 0 ≤ l ∧ l < 1024) (hf : 0 ≤ f ∧ f < 32768) : iand (mko l f) 67108864 = 0 := by
  obtain ⟨n, hn⟩ := Int.eq_ofNat_of_zero_le (show 0 ≤ mko l f by unfold mko; omega)
  have b : n < 67108864 := by unfold mko at hn; omega
  rw [hn, show (67108864 : Int) = ((67108864 : Nat) : Int) from rfl, iand_nat (by omega)]
  have : n &&& 67108864 = 0 := by
    refine Nat.eq_of_testBit_eq fun j => ?_
    rw [Nat.testBit_and, show (67108864 : Nat) = 2 ^ 26 from rfl, Nat.testBit_two_pow, Nat.zero_testBit]
    by_cases c : 26 = j
    · subst c
      rw [Nat.testBit_lt_two_pow (show n < 2 ^ 26 from b)]; rfl
    · simp [c]
  rw [this]; rfl
theorem lbo_o {p d q : Int} (hp : 0 ≤ p ∧ p < 8) (hd : 0 ≤ d ∧ d < 16) (hq : -1 ≤ q ∧ q < 7) : iand (lbo p d q) 7 = p ∧ iand (shr (lbo p d q) (iand 3 31)) 15 = d ∧ iand (shr (lbo p d q) (iand 7 31)) 7 = q + 1 := by
  have lb := lbo_b hp hd hq
  obtain ⟨n, hn⟩ := Int.eq_ofNat_of_zero_le lb.1
  have b : n < 2147483648 := by omega
  rw [shr_l (n := 3) (by omega) (by decide), shr_l (n := 7) (by omega) (by decide)]
  obtain ⟨u, hu⟩ := Int.eq_ofNat_of_zero_le (show 0 ≤ lbo p d q / 2 ^ 3 by omega)
  obtain ⟨v, hv⟩ := Int.eq_ofNat_of_zero_le (show 0 ≤ lbo p d q / 2 ^ 7 by omega)
  rw [hu, hv, hn, show (7 : Int) = ((2 ^ 3 - 1 : Nat) : Int) from rfl, show (15 : Int) = ((2 ^ 4 - 1 : Nat) : Int) from rfl, and_m b, and_m (by omega), and_m (by omega)]
  unfold lbo at hn hu hv
  omega
/-- the lowest bit taken away -/
theorem clrlow {x : Int} (hx : 0 < x ∧ x < 16384) : (0 ≤ iand x (x - 1) ∧ iand x (x - 1) < x) ∧ (∀ d, 0 ≤ d → (bt (iand x (x - 1)) d ↔ bt x d ∧ ¬ d = lowb x)) ∧ bt x (lowb x) ∧ 0 ≤ lowb x ∧ ∀ d, 0 ≤ d → bt x d → lowb x ≤ d := by
  obtain ⟨n, rfl⟩ := Int.eq_ofNat_of_zero_le (show 0 ≤ x by omega)
  obtain ⟨k, m, e⟩ := low_ex n n (Nat.le_refl _) (by omega)
  have el : lowb (n : Int) = k := by rw [e]; exact lowb_eq
  have ea : iand (n : Int) ((n : Int) - 1) = ((n &&& (n - 1) : Nat) : Int) := by rw [show (n : Int) - 1 = ((n - 1 : Nat) : Int) by omega, iand_nat (by omega)]
  have le : n &&& (n - 1) ≤ n - 1 := Nat.and_le_right
  have tb : ∀ j, (n &&& (n - 1)).testBit j = if j < k + 1 then false else m.testBit (j - (k + 1)) := by
    intro j
    rw [Nat.testBit_and, e, low_bit, low_bit1]
    by_cases c : j < k + 1
    · rw [if_pos c, if_pos c, if_pos c]
      by_cases z : k = j
      · simp [z]
      · simp [z]
    · rw [if_neg c, if_neg c, if_neg c]; simp
  have tn : ∀ j, n.testBit j = if j < k + 1 then decide (k = j) else m.testBit (j - (k + 1)) := by
    intro j
    rw [e, low_bit]
  rw [el, ea]
  refine ⟨by omega, fun d d0 => ?_, ?_, by omega, fun d d0 hb => ?_⟩
  · unfold bt
    rw [Int.toNat_natCast, Int.toNat_natCast, tb, tn]
    by_cases c : d.toNat < k + 1
    · rw [if_pos c, if_pos c]
      constructor
      · intro z; exact absurd z (by decide)
      · intro z
        have := of_decide_eq_true z.1
        exact absurd (by omega) z.2
    · rw [if_neg c, if_neg c]
      exact ⟨fun z => ⟨z, by omega⟩, fun z => z.1⟩
  · unfold bt
    rw [Int.toNat_natCast, Int.toNat_natCast, tn, if_pos (by omega)]
    exact decide_eq_true rfl
  · unfold bt at hb
    rw [Int.toNat_natCast, tn] at hb
    by_cases c : d.toNat < k + 1
    · rw [if_pos c] at hb
      have := of_decide_eq_true hb
      omega
    · omega
