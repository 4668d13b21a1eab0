/-! Two in one hole; LEFT is small; the door between two rooms; the lowest bit. -/
theorem ph : ∀ (m : Nat) (f : Nat → Nat), (∀ i, i ≤ m → f i < m) → ∃ i j, i < j ∧ j ≤ m ∧ f i = f j := by
  intro m
  induction m with
  | zero => intro f h; exact absurd (h 0 (Nat.le_refl _)) (Nat.not_lt_zero _)
  | succ m ih =>
    intro f h
    by_cases e : ∃ i, i ≤ m ∧ f i = f (m + 1)
    · obtain ⟨i, h1, h2⟩ := e
      exact ⟨i, m + 1, by omega, Nat.le_refl _, h2⟩
    · have hv := h (m + 1) (Nat.le_refl _)
      obtain ⟨i, j, h1, h2, h3⟩ := ih (fun i => if f i = m then f (m + 1) else f i) (fun i hi => by
        have a := h i (by omega)
        have b : ¬ f i = f (m + 1) := fun q => e ⟨i, hi, q⟩
        show (if f i = m then f (m + 1) else f i) < m
        split <;> omega)
      have bi : ¬ f i = f (m + 1) := fun q => e ⟨i, by omega, q⟩
      have bj : ¬ f j = f (m + 1) := fun q => e ⟨j, h2, q⟩
      refine ⟨i, j, h1, by omega, ?_⟩
      have h3 : (if f i = m then f (m + 1) else f i) = (if f j = m then f (m + 1) else f j) := h3
      split at h3 <;> split at h3 <;> omega
theorem lft_small {N : Int} {S : Int → Int} {t : Prop} {a b : Int} (W : WF N S) (ha : 0 ≤ a ∧ a < S 0) (h : lft S t a b < 99) : lft S t a b ≤ 7 := by
  have w := W.1
  unfold WFb at w
  have x := lft_b S t a b
  have ch : ∀ n : Nat, (n : Int) ≤ lft S t a b → ∃ v : Int, (0 ≤ v ∧ v < S 0) ∧ lft S t v b = lft S t a b - n := by
    intro n
    induction n with
    | zero => intro _; exact ⟨a, ha, by omega⟩
    | succ n ih =>
      intro l
      obtain ⟨v, h1, h2⟩ := ih (by omega)
      obtain ⟨c, h3, h4⟩ := lft_nx (S := S) (t := t) (a := v) (b := b) (by omega) (by omega)
      exact ⟨c, (adj_in W h3).2, by omega⟩
  by_cases q : lft S t a b ≤ 7
  · exact q
  · have pick : ∀ n : Nat, ∃ v : Nat, n ≤ 8 → (v : Int) < S 0 ∧ lft S t v b = lft S t a b - n := by
      intro n
      by_cases l : n ≤ 8
      · obtain ⟨v, h1, h2⟩ := ch n (by omega)
        refine ⟨v.toNat, fun _ => ⟨by omega, ?_⟩⟩
        rw [show ((v.toNat : Nat) : Int) = v by omega]; exact h2
      · exact ⟨0, fun z => absurd z l⟩
    obtain ⟨i, j, h1, h2, h3⟩ := ph 8 (fun n => Classical.choose (pick n)) (fun n hn => by
      have := (Classical.choose_spec (pick n) hn).1; show Classical.choose (pick n) < 8; omega)
    have si := (Classical.choose_spec (pick i) (by omega)).2
    have sj := (Classical.choose_spec (pick j) h2).2
    have h3 : Classical.choose (pick i) = Classical.choose (pick j) := h3
    rw [h3] at si
    omega
/-- two rooms have one door -/
theorem dbt_one {N : Int} {S : Int → Int} (W : WF N S) {a b d e : Int} (hd : 0 ≤ d) (he : 0 ≤ e) (x : dbtP S a b d) (y : dbtP S a b e) : d = e := by
  have dd := W.2.2.2.1 d hd x.1
  have ee := W.2.2.2.1 e he y.1
  refine W.2.2.2.2.1 d e hd x.1 he y.1 ?_ ?_
  · rcases x.2 with ⟨u, v⟩ | ⟨u, v⟩ <;> rcases y.2 with ⟨p, q⟩ | ⟨p, q⟩ <;> subst u <;> subst v
    · exact p.symm
    · rw [p, q] at ee; omega
    · rw [p, q] at ee; omega
    · exact p.symm
  · rcases x.2 with ⟨u, v⟩ | ⟨u, v⟩ <;> rcases y.2 with ⟨p, q⟩ | ⟨p, q⟩ <;> subst u <;> subst v
    · exact q.symm
    · rw [p, q] at ee; omega
    · rw [p, q] at ee; omega
    · exact q.symm
theorem dbt_eq {N : Int} {S : Int → Int} (W : WF N S) {a b d : Int} (hd : 0 ≤ d) (x : dbtP S a b d) : dbt S a b = d :=
  lst_eq hd x fun u hu y => by rw [dbt_one W hd hu x y]; exact Int.le_refl _
theorem dbt_adj {N : Int} {S : Int → Int} (W : WF N S) {t : Prop} {a b : Int} : adj S t a b ↔ ¬ dbt S a b = -1 ∧ opn S t (dbt S a b) := by
  constructor
  · intro ⟨d, h1, h2, h3⟩
    rw [dbt_eq W h1.1 ⟨h1.2, h3⟩]
    exact ⟨by omega, h2⟩
  · intro ⟨h1, h2⟩
    rcases lst_or (dbtP S a b) with q | q
    · exact absurd q h1
    · exact ⟨dbt S a b, ⟨q.1, q.2.1⟩, h2, q.2.2⟩
/-- the lowest bit -/
theorem low_ex : ∀ (n x : Nat), x ≤ n → 0 < x → ∃ k m, x = 2 ^ (k + 1) * m + 2 ^ k := by
  intro n
  induction n with
  | zero => intro x h1 h2; omega
  | succ n ih =>
    intro x h1 h2
    by_cases o : x % 2 = 1
    · exact ⟨0, x / 2, by show x = 2 * (x / 2) + 1; omega⟩
    · obtain ⟨k, m, e⟩ := ih (x / 2) (by omega) (by omega)
      refine ⟨k + 1, m, ?_⟩
      rw [Nat.pow_succ 2 (k + 1), Nat.pow_succ 2 k]
      have : x = 2 * (x / 2) := by omega
      rw [Nat.pow_succ 2 k] at e
      rw [this, e]
      rw [Nat.mul_add, ← Nat.mul_assoc, Nat.mul_comm 2 (2 ^ k * 2), Nat.mul_comm 2 (2 ^ k)]
theorem low_bit {k m j : Nat} : (2 ^ (k + 1) * m + 2 ^ k).testBit j = if j < k + 1 then decide (k = j) else m.testBit (j - (k + 1)) := by
  rw [Nat.testBit_two_pow_mul_add m (Nat.pow_lt_pow_right (by decide) (by omega))]
  split
  · rw [Nat.testBit_two_pow]
  · rfl
theorem low_bit1 {k m j : Nat} : (2 ^ (k + 1) * m + 2 ^ k - 1).testBit j = if j < k + 1 then decide (j < k) else m.testBit (j - (k + 1)) := by
  have p : 0 < 2 ^ k := Nat.two_pow_pos k
  rw [show 2 ^ (k + 1) * m + 2 ^ k - 1 = 2 ^ (k + 1) * m + (2 ^ k - 1) by omega]
  rw [Nat.testBit_two_pow_mul_add m (by rw [Nat.pow_succ]; omega)]
  split
  · rw [Nat.testBit_two_pow_sub_one]
  · rfl
theorem J_negx (x : Int) : J (-x) = J (ixr (x - 1) (-1)) := by
  unfold ixr
  rw [J_toInt, ← J_neg, ← J_sub]
  apply Int32.toBitVec.inj
  show - (J x).toBitVec = ((J x).toBitVec - BitVec.ofInt 32 1) ^^^ BitVec.ofInt 32 (-1)
  rw [show BitVec.ofInt 32 (-1) = BitVec.allOnes 32 from by decide, BitVec.xor_allOnes, show BitVec.ofInt 32 1 = 1#32 from by decide]
  rw [BitVec.not_sub_one_eq_not_add_one, BitVec.neg_eq_not_add]
theorem low_and {k m : Nat} (h : 2 ^ (k + 1) * m + 2 ^ k < 2147483648) : iand ((2 ^ (k + 1) * m + 2 ^ k : Nat) : Int) (-((2 ^ (k + 1) * m + 2 ^ k : Nat) : Int)) = ((2 ^ k : Nat) : Int) := by
  have p : 0 < 2 ^ k := Nat.two_pow_pos k
  have e : iand ((2 ^ (k + 1) * m + 2 ^ k : Nat) : Int) (-((2 ^ (k + 1) * m + 2 ^ k : Nat) : Int)) = iand ((2 ^ (k + 1) * m + 2 ^ k : Nat) : Int) (ixr (((2 ^ (k + 1) * m + 2 ^ k : Nat) : Int) - 1) (-1)) := by
    unfold iand; rw [J_negx]
  rw [e, show (((2 ^ (k + 1) * m + 2 ^ k : Nat) : Int) - 1) = ((2 ^ (k + 1) * m + 2 ^ k - 1 : Nat) : Int) by omega, iandn_nat h]
  refine congrArg Nat.cast (Nat.eq_of_testBit_eq fun j => ?_)
  rw [Nat.testBit_and, Nat.testBit_xor, show (4294967295 : Nat) = 2 ^ 32 - 1 from rfl, Nat.testBit_two_pow_sub_one, low_bit, low_bit1, Nat.testBit_two_pow]
  have kl : k < 31 := by
    by_cases q : k < 31
    · exact q
    · have := Nat.pow_le_pow_right (n := 2) (by decide) (show 31 ≤ k by omega)
      omega
  by_cases c : j < k + 1
  · rw [if_pos c, if_pos c, decide_eq_true (show j < 32 by omega)]
    by_cases c2 : k = j
    · rw [decide_eq_true c2, decide_eq_false (show ¬ j < k by omega)]; rfl
    · rw [decide_eq_false c2]; rfl
  · rw [if_neg c, if_neg c, decide_eq_false (show ¬ k = j by omega)]
    by_cases c2 : j < 32
    · rw [decide_eq_true c2]; cases m.testBit (j - (k + 1)) <;> rfl
    · rw [decide_eq_false c2, Nat.testBit_lt_two_pow (show m < 2 ^ (j - (k + 1)) from ?_)]
      · rfl
      · have : m < 2 ^ (31 - k) := by
          by_cases q : m < 2 ^ (31 - k)
          · exact q
          · have a : 2 ^ (k + 1) * 2 ^ (31 - k) ≤ 2 ^ (k + 1) * m := Nat.mul_le_mul_left _ (by omega)
            rw [← Nat.pow_add, show k + 1 + (31 - k) = 32 by omega] at a
            omega
        exact Nat.lt_of_lt_of_le this (Nat.pow_le_pow_right (by decide) (by omega))
