/-! A SEARCH'S LOG: states in the order in which they were found, from whom, by which passing. -/
def lab3 (t : Int × Int × Int) : Int := lab t.1 t.2.1 t.2.2
def LogOK (S : Int → Int) (t : Prop) (m : Nat) (w : Int) (st : Int → Int → Int) (pa : Int → Int) (la : Int → Int × Int × Int) (R T : Int) : Prop :=
  (0 ≤ R ∧ R ≤ T) ∧ (∀ i j, 0 ≤ i → i < T → 0 ≤ j → j < T → st i = st j → i = j) ∧ (∀ i, R ≤ i → i < T → (0 ≤ pa i ∧ pa i < i) ∧ Lbl S t m w (st (pa i)) (la i).1 (la i).2.1 (la i).2.2 (st i)) ∧
  (∀ i j, R ≤ i → i < j → j < T → pa i < pa j ∨ (pa i = pa j ∧ (w = -1 → lab3 (la i) < lab3 (la j))))
/-- all passings from the heads below H are in the log -/
def LogPr (S : Int → Int) (t : Prop) (m : Nat) (w : Int) (st : Int → Int → Int) (pa : Int → Int) (la : Int → Int × Int × Int) (R T H : Int) : Prop :=
  ∀ i, 0 ≤ i → i < H → ∀ p d q g, Lbl S t m w (st i) p d q g → ∃ j, (0 ≤ j ∧ j < T) ∧ st j = g ∧ (j < R ∨ pa j < i ∨ (pa j = i ∧ (w = -1 → lab3 (la j) ≤ lab p d q)))
/-- the row to i, the last passing first, its root behind -/
def KY (pa : Int → Int) (la : Int → Int × Int × Int) (R : Int) : List Int → Int → Prop
  | [], _ => False
  | [r], i => i < R ∧ r = i
  | x :: y :: ks, i => R ≤ i ∧ x = lab3 (la i) ∧ KY pa la R (y :: ks) (pa i)
def RLT : List Int → List Int → Prop
  | x :: xs, y :: ys => RLT xs ys ∨ (xs = ys ∧ x < y)
  | _, _ => False
section
variable {S : Int → Int} {t : Prop} {m : Nat} {w : Int} {st : Int → Int → Int} {pa : Int → Int} {la : Int → Int × Int × Int} {R T H : Int}
theorem KY_ex (L : LogOK S t m w st pa la R T) : ∀ (n : Nat) (i : Int), 0 ≤ i → i < T → i < n → ∃ ks, KY pa la R ks i := by
  intro n
  induction n with
  | zero => intro i i0 i1 i2; omega
  | succ n ih =>
    intro i i0 i1 i2
    by_cases c : i < R
    · exact ⟨[i], c, rfl⟩
    · have p := (L.2.2.1 i (by omega) i1).1
      obtain ⟨ks, hk⟩ := ih (pa i) p.1 (by omega) (by omega)
      cases ks with
      | nil => exact hk.elim
      | cons y ks => exact ⟨lab3 (la i) :: y :: ks, by omega, rfl, hk⟩
theorem KY_fun : ∀ (ks ls : List Int) (i : Int), KY pa la R ks i → KY pa la R ls i → ks = ls := by
  intro ks
  induction ks with
  | nil => intro ls i a; exact a.elim
  | cons x ks ih =>
    intro ls i a b
    cases ls with
    | nil => exact b.elim
    | cons y ls =>
      cases ks with
      | nil =>
        cases ls with
        | nil => rw [a.2, b.2]
        | cons z ls => have := a.1; have := b.1; omega
      | cons u ks =>
        cases ls with
        | nil => have := a.1; have := b.1; omega
        | cons v ls =>
          rw [a.2.1, b.2.1, ih _ _ a.2.2 b.2.2]
theorem KY_len {ks : List Int} {i : Int} (a : KY pa la R ks i) : 0 < ks.length := by
  cases ks with
  | nil => exact a.elim
  | cons x ks => exact Nat.succ_pos _
theorem KY_mono (L : LogOK S t m w st pa la R T) : ∀ (ks ls : List Int) (i j : Int), KY pa la R ks i → KY pa la R ls j → i ≤ j → j < T → ks.length ≤ ls.length := by
  intro ks
  induction ks with
  | nil => intro ls i j a; exact a.elim
  | cons x ks ih =>
    intro ls i j a b ij jT
    cases ls with
    | nil => exact b.elim
    | cons y ls =>
      cases ks with
      | nil => exact Nat.succ_le_succ (Nat.zero_le _)
      | cons u ks =>
        cases ls with
        | nil => have := a.1; have := b.1; omega
        | cons v ls =>
          have pp : pa i ≤ pa j := by
            by_cases c : i = j
            · subst c; exact Int.le_refl _
            · rcases L.2.2.2 i j a.1 (by omega) jT with z | z <;> omega
          have pj := (L.2.2.1 j b.1 jT).1
          exact Nat.succ_le_succ (ih _ _ _ a.2.2 b.2.2 pp (by omega))
theorem KY_lt (L : LogOK S t m (-1) st pa la R T) : ∀ (ks ls : List Int) (i j : Int), KY pa la R ks i → KY pa la R ls j → i < j → j < T → ks.length = ls.length → RLT ks ls := by
  intro ks
  induction ks with
  | nil => intro ls i j a; exact a.elim
  | cons x ks ih =>
    intro ls i j a b ij jT e
    cases ls with
    | nil => exact b.elim
    | cons y ls =>
      cases ks with
      | nil =>
        cases ls with
        | nil => exact Or.inr ⟨rfl, by rw [a.2, b.2]; exact ij⟩
        | cons z ls => exact absurd e (by simp)
      | cons u ks =>
        cases ls with
        | nil => exact absurd e (by simp)
        | cons v ls =>
          have pj := (L.2.2.1 j b.1 jT).1
          rcases L.2.2.2 i j a.1 ij jT with z | ⟨z, z2⟩
          · exact Or.inl (ih _ _ _ a.2.2 b.2.2 z (by omega) (by simpa using e))
          · have ab := a.2.2
            rw [z] at ab
            exact Or.inr ⟨KY_fun _ _ _ ab b.2.2, by rw [a.2.1, b.2.1]; exact z2 rfl⟩
end
theorem RLT_tr : ∀ (a b c : List Int), RLT a b → RLT b c → RLT a c := by
  intro a
  induction a with
  | nil => intro b c h; exact h.elim
  | cons x xs ih =>
    intro b c h1 h2
    cases b with
    | nil => exact h1.elim
    | cons y ys =>
      cases c with
      | nil => exact h2.elim
      | cons z zs =>
        rcases h1 with h1 | ⟨rfl, h1⟩
        · rcases h2 with h2 | ⟨rfl, h2⟩
          · exact Or.inl (ih _ _ h1 h2)
          · exact Or.inl h1
        · rcases h2 with h2 | ⟨rfl, h2⟩
          · exact Or.inl h2
          · exact Or.inr ⟨rfl, by omega⟩
theorem RLT_irr : ∀ (a : List Int), ¬ RLT a a := by
  intro a
  induction a with
  | nil => exact fun h => h
  | cons x xs ih =>
    intro h
    rcases h with h | ⟨_, h⟩
    · exact ih h
    · omega
/-- where the rows part -/
theorem RLT_part : ∀ (a b : List Int) (x y : Int) (u : List Int), a.length = b.length → (a ++ x :: u = b ++ y :: u ∨ RLT (a ++ x :: u) (b ++ y :: u)) → x ≤ y := by
  intro a
  induction a with
  | nil =>
    intro b x y u e h
    cases b with
    | nil =>
      rcases h with h | h | ⟨_, h⟩
      · have : x = y := by injection h
        omega
      · exact absurd h (RLT_irr u)
      · omega
    | cons z b => exact absurd e (by simp)
  | cons z a ih =>
    intro b x y u e h
    cases b with
    | nil => exact absurd e (by simp)
    | cons v b =>
      refine ih b x y u (by simpa using e) ?_
      rcases h with h | h | ⟨h, _⟩
      · left
        have : a ++ x :: u = b ++ y :: u := by injection h
        exact this
      · exact Or.inr h
      · exact Or.inl h
/-- a walk from a root, its passings' numbers, the last first -/
def LW (S : Int → Int) (t : Prop) (m : Nat) (w : Int) (st : Int → Int → Int) (R : Int) : List Int → (Int → Int) → Prop
  | [], _ => False
  | [r], e => (0 ≤ r ∧ r < R) ∧ e = st r
  | x :: y :: ks, e => ∃ f p d q, LW S t m w st R (y :: ks) f ∧ Lbl S t m w f p d q e ∧ x = lab p d q
section
variable {S : Int → Int} {t : Prop} {m : Nat} {w : Int} {st : Int → Int → Int} {pa : Int → Int} {la : Int → Int × Int × Int} {R T H : Int}
theorem KY_LW (L : LogOK S t m w st pa la R T) : ∀ (ks : List Int) (i : Int), 0 ≤ i → i < T → KY pa la R ks i → LW S t m w st R ks (st i) := by
  intro ks
  induction ks with
  | nil => intro i _ _ a; exact a.elim
  | cons x ks ih =>
    intro i i0 iT a
    cases ks with
    | nil => exact ⟨⟨by rw [a.2]; exact i0, by rw [a.2]; exact a.1⟩, by rw [a.2]⟩
    | cons y ks =>
      have p := L.2.2.1 i a.1 iT
      exact ⟨st (pa i), _, _, _, ih (pa i) p.1.1 (by omega) a.2.2, p.2, a.2.1⟩
/-- what is walked to is in the log, no later; or the first head not gone from is no deeper -/
theorem LW_log (L : LogOK S t m w st pa la R T) (P : LogPr S t m w st pa la R T H) (hH : H ≤ T) : ∀ (ws : List Int) (e : Int → Int), LW S t m w st R ws e → (∃ j ks, (0 ≤ j ∧ j < T) ∧ st j = e ∧ KY pa la R ks j ∧ ks.length ≤ ws.length ∧ (w = -1 → ks.length = ws.length → ks = ws ∨ RLT ks ws)) ∨ (∃ j ks, (H ≤ j ∧ j < T) ∧ KY pa la R ks j ∧ ks.length < ws.length) := by
  intro ws
  induction ws with
  | nil => intro e a; exact a.elim
  | cons x ws ih =>
    intro e a
    cases ws with
    | nil => exact Or.inl ⟨x, [x], ⟨a.1.1, by have := L.1; have := a.1.2; omega⟩, a.2.symm, ⟨a.1.2, rfl⟩, Nat.le_refl _, fun _ _ => Or.inl rfl⟩
    | cons y ws =>
      obtain ⟨f, p, d, q, lw, hl, ex⟩ := a
      rcases ih f lw with ⟨j, ks, hj, sj, kj, kl, kw⟩ | ⟨j, ks, hj, kj, kl⟩
      · by_cases c : j < H
        · obtain ⟨j', hj', sj', cs⟩ := P j hj.1 c p d q e (by rw [sj]; exact hl)
          obtain ⟨ls, lk⟩ := KY_ex L (j' + 1).toNat j' hj'.1 hj'.2 (by omega)
          left
          refine ⟨j', ls, hj', sj', lk, ?_, ?_⟩
          · cases ls with
            | nil => exact lk.elim
            | cons u ls =>
              cases ls with
              | nil => exact Nat.succ_le_succ (Nat.zero_le _)
              | cons v ls =>
                have : (v :: ls).length ≤ ks.length := KY_mono L _ _ _ _ lk.2.2 kj (by have := lk.1; rcases cs with z | z | ⟨z, _⟩ <;> omega) hj.2
                exact Nat.succ_le_succ (Nat.le_trans this kl)
          · intro ew el
            subst ew
            cases ls with
            | nil => exact lk.elim
            | cons u ls =>
              cases ls with
              | nil => exact absurd el (by simp)
              | cons v ls =>
                have e2 : (v :: ls).length = (y :: ws).length := by simpa using el
                have kmo : (v :: ls).length ≤ ks.length := KY_mono L _ _ _ _ lk.2.2 kj (by have := lk.1; rcases cs with z | z | ⟨z, _⟩ <;> omega) hj.2
                have e3 : ks.length = (y :: ws).length := by omega
                have k2 := kw rfl e3
                rcases cs with z | z | ⟨z, z2⟩
                · have := lk.1; omega
                · have lt := KY_lt L _ _ _ _ lk.2.2 kj z hj.2 (by omega)
                  right
                  left
                  rcases k2 with k2 | k2
                  · rw [← k2]; exact lt
                  · exact RLT_tr _ _ _ lt k2
                · have kk := lk.2.2
                  rw [z] at kk
                  have eq := KY_fun _ _ _ kk kj
                  have hz := z2 rfl
                  rw [← lk.2.1, ← ex] at hz
                  rcases k2 with k2 | k2
                  · rw [eq, k2]
                    by_cases c2 : u = x
                    · left; rw [c2]
                    · right; right; exact ⟨rfl, by omega⟩
                  · right; left; rw [eq]; exact k2
        · exact Or.inr ⟨j, ks, ⟨by omega, hj.2⟩, kj, Nat.lt_succ_of_le kl⟩
      · exact Or.inr ⟨j, ks, hj, kj, Nat.lt_succ_of_lt kl⟩
/-- the first wanted one is the least deep, by the first row -/
theorem LW_first {G : (Int → Int) → Prop} (L : LogOK S t m w st pa la R T) (hF : 0 ≤ H ∧ H < T) (P : LogPr S t m w st pa la R T H) (nG : ∀ i, 0 ≤ i → i < H → ¬ G (st i)) {ks : List Int} (kF : KY pa la R ks H) {ws : List Int} {e : Int → Int} (lw : LW S t m w st R ws e) (ge : G e) : ks.length ≤ ws.length ∧ (w = -1 → ks.length = ws.length → ks = ws ∨ RLT ks ws) := by
  rcases LW_log L P (by omega) ws e lw with ⟨j, ls, hj, sj, kj, kl, kw⟩ | ⟨j, ls, hj, kj, kl⟩
  · have c : H ≤ j := by
      apply Classical.byContradiction
      intro z
      exact nG j hj.1 (by omega) (by rw [sj]; exact ge)
    have mo := KY_mono L _ _ _ _ kF kj c hj.2
    refine ⟨Nat.le_trans mo kl, fun ew el => ?_⟩
    subst ew
    have e2 : ls.length = ws.length := by omega
    have k2 := kw rfl e2
    by_cases z : H = j
    · subst z
      rw [KY_fun _ _ _ kF kj]; exact k2
    · have lt := KY_lt L _ _ _ _ kF kj (by omega) hj.2 (by omega)
      right
      rcases k2 with k2 | k2
      · rw [← k2]; exact lt
      · exact RLT_tr _ _ _ lt k2
  · have mo := KY_mono L _ _ _ _ kF kj hj.1 hj.2
    exact ⟨by omega, fun _ el => by omega⟩
/-- with all gone from, all that is walked to is in the log -/
theorem LW_all (L : LogOK S t m w st pa la R T) (P : LogPr S t m w st pa la R T T) {ws : List Int} {e : Int → Int} (lw : LW S t m w st R ws e) : ∃ j, (0 ≤ j ∧ j < T) ∧ st j = e := by
  rcases LW_log L P (Int.le_refl _) ws e lw with ⟨j, ls, hj, sj, _⟩ | ⟨j, ls, hj, _⟩
  · exact ⟨j, hj, sj⟩
  · omega
end
