/-! WHO IS WHERE, as a number: digits to a base. -/
def fu (f : Int → Int) (p r : Int) : Int → Int := fun x => if x = p then r else f x
theorem fu_eq (f : Int → Int) (p r : Int) : fu f p r p = r := if_pos rfl
theorem fu_ne {f : Int → Int} {p r x : Int} (h : ¬ x = p) : fu f p r x = f x := if_neg h
/-- m rooms below n -/
def Kf (m : Nat) (n : Int) (f : Int → Int) : Prop := (∀ p : Int, 0 ≤ p → p < m → 0 ≤ f p ∧ f p < n) ∧ ∀ p : Int, (p < 0 ∨ m ≤ p) → f p = 0
theorem Kf.fu {m : Nat} {n : Int} {f : Int → Int} (k : Kf m n f) {p r : Int} (hp : 0 ≤ p ∧ p < m) (hr : 0 ≤ r ∧ r < n) : Kf m n (fu f p r) := by
  refine ⟨fun x x0 x1 => ?_, fun x hx => ?_⟩
  · by_cases c : x = p
    · subst c; rw [fu_eq]; exact hr
    · rw [fu_ne c]; exact k.1 x x0 x1
  · rw [fu_ne (by omega)]; exact k.2 x hx
theorem fu_fu (f : Int → Int) (p r s : Int) : fu (fu f p r) p s = fu f p s := by
  funext x
  by_cases c : x = p
  · subst c; rw [fu_eq, fu_eq]
  · rw [fu_ne c, fu_ne c, fu_ne c]
theorem fu_self {f : Int → Int} {p r : Int} (h : f p = r) : fu f p r = f := by
  funext x
  by_cases c : x = p
  · subst c; rw [fu_eq, h]
  · rw [fu_ne c]
theorem fu_comm {f : Int → Int} {p q r s : Int} (h : ¬ p = q) : fu (fu f p r) q s = fu (fu f q s) p r := by
  funext x
  by_cases c : x = p
  · subst c; rw [fu_ne h, fu_eq, fu_eq]
  · by_cases e : x = q
    · subst e; rw [fu_eq, fu_ne c, fu_eq]
    · rw [fu_ne e, fu_ne c, fu_ne c, fu_ne e]
def enc (b : Int) : Nat → (Int → Int) → Int
  | 0, _ => 0
  | m + 1, f => f 0 + b * enc b m (fun p => f (p + 1))
theorem pw_pos {b : Int} (hb : 0 < b) (m : Nat) : 0 < b ^ m := Int.pow_pos hb
theorem enc_b {b : Int} (hb : 0 < b) : ∀ (m : Nat) (f : Int → Int), (∀ p : Int, 0 ≤ p → p < m → 0 ≤ f p ∧ f p < b) → 0 ≤ enc b m f ∧ enc b m f < b ^ m := by
  intro m
  induction m with
  | zero => intro f _; exact ⟨Int.le_refl 0, by rw [Int.pow_zero]; show (0:Int) < 1; decide⟩
  | succ m ih =>
    intro f k
    have i := ih (fun p => f (p + 1)) (fun p p0 p1 => k (p + 1) (by omega) (by omega))
    have f0 := k 0 (by omega) (by omega)
    show 0 ≤ f 0 + b * enc b m (fun p => f (p + 1)) ∧ f 0 + b * enc b m (fun p => f (p + 1)) < b ^ (m + 1)
    rw [Int.pow_succ, Int.mul_comm (b ^ m) b]
    have a1 : 0 ≤ b * enc b m (fun p => f (p + 1)) := Int.mul_nonneg (by omega) i.1
    have a2 : b * (enc b m (fun p => f (p + 1)) + 1) ≤ b * b ^ m := Int.mul_le_mul_of_nonneg_left (by omega) (by omega)
    rw [Int.mul_add, Int.mul_one] at a2
    omega
theorem enc_dg {b : Int} (hb : 0 < b) : ∀ (m : Nat) (f : Int → Int) (p : Nat), (∀ p : Int, 0 ≤ p → p < m → 0 ≤ f p ∧ f p < b) → p < m → enc b m f / b ^ p % b = f p := by
  intro m
  induction m with
  | zero => intro f p _ h; omega
  | succ m ih =>
    intro f p k hp
    have f0 := k 0 (by omega) (by omega)
    show (f 0 + b * enc b m (fun p => f (p + 1))) / b ^ p % b = f p
    cases p with
    | zero =>
      rw [Int.pow_zero, Int.ediv_one, Int.add_mul_emod_self_left]
      exact Int.emod_eq_of_lt f0.1 f0.2
    | succ p =>
      have i := ih (fun p => f (p + 1)) p (fun p p0 p1 => k (p + 1) (by omega) (by omega)) (by omega)
      rw [Int.pow_succ, Int.mul_comm (b ^ p) b, ← Int.ediv_ediv_of_nonneg (Int.le_of_lt hb), Int.add_mul_ediv_left _ _ (by omega), Int.ediv_eq_zero_of_lt f0.1 f0.2, Int.zero_add, i]
      show f ((p : Int) + 1) = f ((p + 1 : Nat) : Int)
      rw [Int.natCast_add]; rfl
theorem enc_cong {b : Int} : ∀ (m : Nat) (f g : Int → Int), (∀ p : Int, 0 ≤ p → p < m → f p = g p) → enc b m f = enc b m g := by
  intro m
  induction m with
  | zero => intro f g _; rfl
  | succ m ih =>
    intro f g e
    show f 0 + b * enc b m (fun p => f (p + 1)) = g 0 + b * enc b m (fun p => g (p + 1))
    rw [e 0 (by omega) (by omega), ih _ _ (fun p p0 p1 => e (p + 1) (by omega) (by omega))]
theorem enc_fu {b : Int} : ∀ (m : Nat) (f : Int → Int) (p : Nat) (r : Int), p < m → enc b m (fu f p r) = enc b m f + (r - f p) * b ^ p := by
  intro m
  induction m with
  | zero => intro f p r h; omega
  | succ m ih =>
    intro f p r hp
    show fu f p r 0 + b * enc b m (fun x => fu f p r (x + 1)) = f 0 + b * enc b m (fun x => f (x + 1)) + _
    cases p with
    | zero =>
      rw [show ((0 : Nat) : Int) = 0 from rfl, fu_eq, enc_cong m _ (fun x => f (x + 1)) (fun p p0 p1 => fu_ne (by omega)), Int.pow_zero, Int.mul_one]
      omega
    | succ p =>
      have i := ih (fun x => f (x + 1)) p r (by omega)
      rw [fu_ne (by omega), enc_cong m (fun x => fu f ((p + 1 : Nat) : Int) r (x + 1)) (fu (fun x => f (x + 1)) p r) (fun x x0 x1 => by
        by_cases c : x = p
        · subst c; rw [fu_eq, show ((p + 1 : Nat) : Int) = (p : Int) + 1 from rfl, fu_eq]
        · rw [fu_ne c, fu_ne (by omega)]), i, Int.mul_add, Int.pow_succ]
      rw [show f ((p + 1 : Nat) : Int) = f ((p : Int) + 1) from rfl, Int.mul_comm b ((r - f ((p : Int) + 1)) * b ^ p), Int.mul_assoc, Int.add_assoc]
/-- a number's digits -/
def dcd (b : Int) (m : Nat) (c : Int) : Int → Int := fun p => if 0 ≤ p ∧ p < m then c / b ^ p.toNat % b else 0
theorem dcd_K {b : Int} (hb : 0 < b) (m : Nat) (c : Int) : Kf m b (dcd b m c) := by
  refine ⟨fun p p0 p1 => ?_, fun p hp => ?_⟩
  · unfold dcd; rw [if_pos ⟨p0, p1⟩]; exact ⟨Int.emod_nonneg _ (by omega), Int.emod_lt_of_pos _ hb⟩
  · unfold dcd; rw [if_neg (by omega)]
theorem dcd_enc {b : Int} (hb : 0 < b) {m : Nat} {f : Int → Int} (k : Kf m b f) : dcd b m (enc b m f) = f := by
  funext p
  unfold dcd
  by_cases c : 0 ≤ p ∧ p < m
  · rw [if_pos c, enc_dg hb m f p.toNat k.1 (by omega), show ((p.toNat : Nat) : Int) = p by omega]
  · rw [if_neg c, k.2 p (by omega)]
theorem enc_dcd {b : Int} (hb : 0 < b) : ∀ (m : Nat) (c : Int), 0 ≤ c → c < b ^ m → enc b m (dcd b m c) = c := by
  intro m
  induction m with
  | zero => intro c c0 c1; rw [Int.pow_zero] at c1; show (0 : Int) = c; omega
  | succ m ih =>
    intro c c0 c1
    have q0 : 0 ≤ c / b := Int.ediv_nonneg c0 (Int.le_of_lt hb)
    have q1 : c / b < b ^ m := by
      apply Int.ediv_lt_of_lt_mul hb
      rw [Int.pow_succ] at c1; exact c1
    have i := ih (c / b) q0 q1
    show dcd b (m + 1) c 0 + b * enc b m (fun p => dcd b (m + 1) c (p + 1)) = c
    have d0 : dcd b (m + 1) c 0 = c % b := by unfold dcd; rw [if_pos (by omega)]; show c / b ^ 0 % b = c % b; rw [Int.pow_zero, Int.ediv_one]
    rw [d0, enc_cong m (fun p => dcd b (m + 1) c (p + 1)) (dcd b m (c / b)) (fun p p0 p1 => ?_), i]
    · exact Int.emod_add_mul_ediv c b
    · show dcd b (m + 1) c (p + 1) = dcd b m (c / b) p
      unfold dcd
      rw [if_pos (by omega), if_pos (by omega), show (p + 1).toNat = p.toNat + 1 by omega, Int.pow_succ, Int.mul_comm (b ^ p.toNat) b, ← Int.ediv_ediv_of_nonneg (Int.le_of_lt hb)]
theorem enc_inj {b : Int} (hb : 0 < b) {m : Nat} {f g : Int → Int} (k : Kf m b f) (l : Kf m b g) (e : enc b m f = enc b m g) : f = g := by rw [← dcd_enc hb k, ← dcd_enc hb l, e]
theorem Kf.up {m : Nat} {n b : Int} {f : Int → Int} (k : Kf m n f) (h : n ≤ b) : Kf m b f := ⟨fun p p0 p1 => by have := k.1 p p0 p1; omega, k.2⟩
theorem pw_le {b : Int} (hb : 0 < b) (h8 : b ≤ 8) : ∀ m : Nat, b ^ m ≤ 8 ^ m := by
  intro m
  induction m with
  | zero => rw [Int.pow_zero, Int.pow_zero]; exact Int.le_refl 1
  | succ m ih =>
    rw [Int.pow_succ, Int.pow_succ]
    have a := pw_pos hb m
    calc b ^ m * b ≤ b ^ m * 8 := Int.mul_le_mul_of_nonneg_left h8 (by omega)
      _ ≤ 8 ^ m * 8 := Int.mul_le_mul_of_nonneg_right ih (by decide)
theorem pw_32k {b : Int} (hb : 0 < b) (h8 : b ≤ 8) {m : Nat} (hm : m ≤ 5) : 0 < b ^ m ∧ b ^ m ≤ 32768 := by
  refine ⟨pw_pos hb m, ?_⟩
  have := pw_le hb h8 m
  have : (8 : Int) ^ m ≤ 32768 := by
    have : m = 0 ∨ m = 1 ∨ m = 2 ∨ m = 3 ∨ m = 4 ∨ m = 5 := by omega
    rcases this with rfl | rfl | rfl | rfl | rfl | rfl <;> decide
  omega
