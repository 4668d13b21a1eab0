/-! RULES: what their language says; both readers are held against it. -/
abbrev Cd : Type := List (Int × Int)
abbrev RR : Type := Int × Int × Int × Cd
def flR (f : Int) : RR := (f, 0, 0, [])
noncomputable def bn (r : RR) (g : Int → Int → Cd → RR) : RR := pI (r.1 = 0) (g r.2.1 r.2.2.1 r.2.2.2) (flR r.1)
theorem bn_pos {r : RR} {g : Int → Int → Cd → RR} (e : r.1 = 0) : bn r g = g r.2.1 r.2.2.1 r.2.2.2 := pI_pos e
theorem bn_neg {r : RR} {g : Int → Int → Cd → RR} (e : ¬ r.1 = 0) : bn r g = flR r.1 := pI_neg e
def mrk (tp : Int → Int) (L j c : Int) : Prop := j < L ∧ tp j = c
noncomputable def wdx (tp : Int → Int) (L j : Int) : Int := pI (wc tp L j = wSc 5) 0 (pI (wc tp L j = wSc 7) 1 (pI (wc tp L j = wSc 1) 2 (pI (wc tp L j = wSc 8) 3 (pI (wc tp L j = wSc 9) 4 (pI (wc tp L j = wSc 10) 5 (pI (wc tp L j = wSc 11) 6 (pI (wc tp L j = wSc 4) 7 (pI (wc tp L j = wSc 12) 8 (pI (wc tp L j = wSc 13) 9 (pI (wc tp L j = wSc 14) 10 (pI (wc tp L j = wSc 15) 11 (-1))))))))))))
theorem pI_or {P : Prop} {a b : Int} {U : Int → Prop} (ha : P → U a) (hb : ¬ P → U b) : U (pI P a b) := by
  by_cases c : P
  · rw [pI_pos c]; exact ha c
  · rw [pI_neg c]; exact hb c
theorem wdx_b (tp : Int → Int) (L j : Int) : -1 ≤ wdx tp L j ∧ wdx tp L j ≤ 11 := by
  unfold wdx
  refine pI_or (U := fun x => -1 ≤ x ∧ x ≤ 11) (fun _ => by omega) (fun _ => ?_)
  refine pI_or (U := fun x => -1 ≤ x ∧ x ≤ 11) (fun _ => by omega) (fun _ => ?_)
  refine pI_or (U := fun x => -1 ≤ x ∧ x ≤ 11) (fun _ => by omega) (fun _ => ?_)
  refine pI_or (U := fun x => -1 ≤ x ∧ x ≤ 11) (fun _ => by omega) (fun _ => ?_)
  refine pI_or (U := fun x => -1 ≤ x ∧ x ≤ 11) (fun _ => by omega) (fun _ => ?_)
  refine pI_or (U := fun x => -1 ≤ x ∧ x ≤ 11) (fun _ => by omega) (fun _ => ?_)
  refine pI_or (U := fun x => -1 ≤ x ∧ x ≤ 11) (fun _ => by omega) (fun _ => ?_)
  refine pI_or (U := fun x => -1 ≤ x ∧ x ≤ 11) (fun _ => by omega) (fun _ => ?_)
  refine pI_or (U := fun x => -1 ≤ x ∧ x ≤ 11) (fun _ => by omega) (fun _ => ?_)
  refine pI_or (U := fun x => -1 ≤ x ∧ x ≤ 11) (fun _ => by omega) (fun _ => ?_)
  refine pI_or (U := fun x => -1 ≤ x ∧ x ≤ 11) (fun _ => by omega) (fun _ => ?_)
  exact pI_or (U := fun x => -1 ≤ x ∧ x ≤ 11) (fun _ => by omega) (fun _ => by omega)
noncomputable def tmO (tp : Int → Int) (L j : Int) : Int := pI (mrk tp L j 42) 4 (pI (mrk tp L j 47) 5 (pI (mrk tp L j 37) 14 0))
noncomputable def smO (tp : Int → Int) (L j : Int) : Int := pI (mrk tp L j 43) 2 (pI (mrk tp L j 45) 3 0)
noncomputable def sgO (tp : Int → Int) (L j : Int) : Int := pI (mrk tp L j 60) (pI (wdn tp L j) 7 6) (pI (mrk tp L j 61) 8 (pI (mrk tp L j 62) (pI (wdn tp L j) 9 10) 0))
theorem tmO_b {tp : Int → Int} {L j : Int} : (tmO tp L j = 0 ∨ j < L) ∧ (tmO tp L j = 0 ∨ tmO tp L j = 4 ∨ tmO tp L j = 5 ∨ tmO tp L j = 14) := by
  unfold tmO
  refine pI_or (U := fun x => (x = 0 ∨ j < L) ∧ (x = 0 ∨ x = 4 ∨ x = 5 ∨ x = 14)) (fun c => ⟨Or.inr c.1, by omega⟩) (fun _ => ?_)
  refine pI_or (U := fun x => (x = 0 ∨ j < L) ∧ (x = 0 ∨ x = 4 ∨ x = 5 ∨ x = 14)) (fun c => ⟨Or.inr c.1, by omega⟩) (fun _ => ?_)
  exact pI_or (U := fun x => (x = 0 ∨ j < L) ∧ (x = 0 ∨ x = 4 ∨ x = 5 ∨ x = 14)) (fun c => ⟨Or.inr c.1, by omega⟩) (fun _ => by omega)
theorem smO_b {tp : Int → Int} {L j : Int} : (smO tp L j = 0 ∨ j < L) ∧ (smO tp L j = 0 ∨ smO tp L j = 2 ∨ smO tp L j = 3) := by
  unfold smO
  refine pI_or (U := fun x => (x = 0 ∨ j < L) ∧ (x = 0 ∨ x = 2 ∨ x = 3)) (fun c => ⟨Or.inr c.1, by omega⟩) (fun _ => ?_)
  exact pI_or (U := fun x => (x = 0 ∨ j < L) ∧ (x = 0 ∨ x = 2 ∨ x = 3)) (fun c => ⟨Or.inr c.1, by omega⟩) (fun _ => by omega)
theorem sgO_b {tp : Int → Int} {L j : Int} : (sgO tp L j = 0 ∨ j < L) ∧ (sgO tp L j = 0 ∨ (6 ≤ sgO tp L j ∧ sgO tp L j ≤ 10)) := by
  unfold sgO
  refine pI_or (U := fun x => (x = 0 ∨ j < L) ∧ (x = 0 ∨ (6 ≤ x ∧ x ≤ 10))) (fun c => ?_) (fun _ => ?_)
  · exact pI_or (U := fun x => (x = 0 ∨ j < L) ∧ (x = 0 ∨ (6 ≤ x ∧ x ≤ 10))) (fun _ => ⟨Or.inr c.1, by omega⟩) (fun _ => ⟨Or.inr c.1, by omega⟩)
  refine pI_or (U := fun x => (x = 0 ∨ j < L) ∧ (x = 0 ∨ (6 ≤ x ∧ x ≤ 10))) (fun c => ⟨Or.inr c.1, by omega⟩) (fun _ => ?_)
  refine pI_or (U := fun x => (x = 0 ∨ j < L) ∧ (x = 0 ∨ (6 ≤ x ∧ x ≤ 10))) (fun c => ?_) (fun _ => by omega)
  exact pI_or (U := fun x => (x = 0 ∨ j < L) ∧ (x = 0 ∨ (6 ≤ x ∧ x ≤ 10))) (fun _ => ⟨Or.inr c.1, by omega⟩) (fun _ => ⟨Or.inr c.1, by omega⟩)
noncomputable def vl (tp : Int → Int) (L j p : Int) (c : Cd) : RR :=
  pI (tkK tp L j = 1) (pI (tkV tp L j = -1) (flR (1 + 8 * j + 1)) (pI (p = 60) (flR (1 + 8 * j + 3)) (0, nx tp L j, p + 1, c ++ [(0, tkV tp L j)])))
    (pI (wdx tp L j = -1) (flR (1 + 8 * j)) (pI (p = 60) (flR (1 + 8 * j + 3)) (0, nx tp L j, p + 1, c ++ [(1, wdx tp L j)])))
noncomputable def tmR (tp : Int → Int) (L : Int) : Nat → Int → Int → Cd → RR
  | 0, _, _, _ => flR 1
  | n + 1, j, p, c => pI (tmO tp L j = 0) (0, j, p, c) (bn (vl tp L (nx tp L j) p c) fun j1 p1 c1 => tmR tp L n j1 p1 (c1 ++ [(tmO tp L j, 0)]))
noncomputable def tm (tp : Int → Int) (L j p : Int) (c : Cd) : RR := bn (vl tp L j p c) (tmR tp L 61)
noncomputable def smR (tp : Int → Int) (L : Int) : Nat → Int → Int → Cd → RR
  | 0, _, _, _ => flR 1
  | n + 1, j, p, c => pI (smO tp L j = 0) (0, j, p, c) (bn (tm tp L (nx tp L j) p c) fun j1 p1 c1 => smR tp L n j1 p1 (c1 ++ [(smO tp L j, 0)]))
noncomputable def sm (tp : Int → Int) (L j p : Int) (c : Cd) : RR := bn (tm tp L j p c) (smR tp L 61)
noncomputable def cp (tp : Int → Int) (L j p : Int) (c : Cd) : RR :=
  bn (sm tp L j p c) fun j1 p1 c1 => pI (sgO tp L j1 = 0) (flR (1 + 8 * j1)) (pI (p1 = 60) (flR (1 + 8 * j1 + 3)) (bn (sm tp L (nx tp L j1) (p1 + 1) c1) fun j2 p2 c2 => (0, j2, p2, c2 ++ [(sgO tp L j1, 0)])))
def aLc (a : Bool) : Cd := if a then [(12, 0)] else []
def oL (o : Bool) : Cd := if o then [(13, 0)] else []
/-- a fact (false) or a test (true) -/
noncomputable def ft (tp : Int → Int) (L : Int) : Nat → Bool → Int → Bool → Bool → Int → Int → Cd → RR
  | 0, _, _, _, _, _, _, _ => flR 1
  | n + 1, false, dp, _, _, j, p, c => pI (wc tp L j = wSc 17 ∨ mrk tp L j 91) (pI (dp = 10) (flR (1 + 8 * j + 2)) (pI (wc tp L j = wSc 17)
      (bn (ft tp L n false (dp + 1) false false (nx tp L j) p c) fun j1 p1 c1 => (0, j1, p1, c1 ++ [(11, 0)]))
      (bn (ft tp L n true (dp + 1) false false (nx tp L j) p c) fun j1 p1 c1 => pI (mrk tp L j1 93) (0, nx tp L j1, p1, c1) (flR (1 + 8 * j1))))) (cp tp L j p c)
  | n + 1, true, dp, o, a, j, p, c => bn (ft tp L n false dp false false j p c) fun j1 p1 c1 => pI (wc tp L j1 = wSc 18) (ft tp L n true dp o true (nx tp L j1) p1 (c1 ++ aLc a))
      (pI (wc tp L j1 = wSc 19) (ft tp L n true dp true false (nx tp L j1) p1 (c1 ++ aLc a ++ oL o)) (0, j1, p1, c1 ++ aLc a ++ oL o))
theorem ft_f (tp : Int → Int) (L : Int) (n : Nat) (dp : Int) (o a : Bool) (j p : Int) (c : Cd) : ft tp L (n + 1) false dp o a j p c = pI (wc tp L j = wSc 17 ∨ mrk tp L j 91) (pI (dp = 10) (flR (1 + 8 * j + 2)) (pI (wc tp L j = wSc 17)
      (bn (ft tp L n false (dp + 1) false false (nx tp L j) p c) fun j1 p1 c1 => (0, j1, p1, c1 ++ [(11, 0)]))
      (bn (ft tp L n true (dp + 1) false false (nx tp L j) p c) fun j1 p1 c1 => pI (mrk tp L j1 93) (0, nx tp L j1, p1, c1) (flR (1 + 8 * j1))))) (cp tp L j p c) := by rw [ft]
theorem ft_t (tp : Int → Int) (L : Int) (n : Nat) (dp : Int) (o a : Bool) (j p : Int) (c : Cd) : ft tp L (n + 1) true dp o a j p c = bn (ft tp L n false dp false false j p c) fun j1 p1 c1 => pI (wc tp L j1 = wSc 18) (ft tp L n true dp o true (nx tp L j1) p1 (c1 ++ aLc a))
      (pI (wc tp L j1 = wSc 19) (ft tp L n true dp true false (nx tp L j1) p1 (c1 ++ aLc a ++ oL o)) (0, j1, p1, c1 ++ aLc a ++ oL o)) := by rw [ft]
/-- kinds on the stack -/
def trL : Cd → List Bool → Option (List Bool)
  | [], s => some s
  | x :: c, s => match tr1 x.1 s with
    | some s' => trL c s'
    | none => none
theorem trL_ap : ∀ (c d : Cd) (s t : List Bool), trL c s = some t → trL (c ++ d) s = trL d t := by
  intro c
  induction c with
  | nil => intro d s t e; cases e; rfl
  | cons x c ih =>
    intro d s t e
    show (match tr1 x.1 s with | some s' => trL (c ++ d) s' | none => none) = _
    have e' : (match tr1 x.1 s with | some s' => trL c s' | none => none) = some t := e
    cases q : tr1 x.1 s with
    | none => rw [q] at e'; cases e'
    | some u => rw [q] at e'; exact ih d u t e'
def nvl : Cd → Int
  | [] => 0
  | x :: c => (if x.1 = 0 ∨ x.1 = 1 then 1 else 0) + nvl c
theorem nvl_ap : ∀ c d : Cd, nvl (c ++ d) = nvl c + nvl d := by
  intro c
  induction c with
  | nil => intro d; show nvl d = 0 + nvl d; omega
  | cons x c ih =>
    intro d
    show (if x.1 = 0 ∨ x.1 = 1 then 1 else 0) + nvl (c ++ d) = (if x.1 = 0 ∨ x.1 = 1 then 1 else 0) + nvl c + nvl d
    rw [ih]; omega
def CdO (x : Int × Int) : Prop := (0 ≤ x.1 ∧ x.1 < 16) ∧ (0 ≤ x.2 ∧ x.2 < 100000) ∧ (x.1 = 1 → x.2 < 12)
/-- what a piece that was read without a fault is: from j, p, c on it takes the stack a to b; q operations may have been told before j; it counts e parts at least -/
def Gd (L j p : Int) (c : Cd) (a b : List Bool) (q e : Int) (r : RR) : Prop := r.1 = 0 → (j ≤ r.2.1 ∧ r.2.1 ≤ L) ∧ (p + e ≤ r.2.2.1 ∧ r.2.2.1 ≤ 60) ∧ ∃ d : Cd, r.2.2.2 = c ++ d ∧ (d.length : Int) ≤ r.2.1 - j + q ∧ (∀ s, trL d (a ++ s) = some (b ++ s)) ∧ nvl d ≤ r.2.2.1 - p ∧ ∀ x ∈ d, CdO x
section
variable {L j p : Int} {c : Cd} {a b : List Bool} {q e : Int} {r : RR}
theorem Gd.fl {f : Int} (h : ¬ f = 0) : Gd L j p c a b q e (flR f) := fun z => absurd z h
theorem Gd.rf (hj : j ≤ L) (hp : p ≤ 60) : Gd L j p c a a 0 0 (0, j, p, c) := fun _ => ⟨⟨Int.le_refl j, hj⟩, ⟨by show p + 0 ≤ p; omega, hp⟩, [], by show c = c ++ []; rw [List.append_nil], by show (0 : Int) ≤ j - j + 0; omega, fun _ => rfl, by show (0 : Int) ≤ p - p; omega, fun x z => absurd z List.not_mem_nil⟩
theorem Gd.mo {q' e' : Int} (h : Gd L j p c a b q e r) (hq : q ≤ q') (he : e' ≤ e) : Gd L j p c a b q' e' r := fun z => by
  obtain ⟨h1, h2, d, h3, h4, h5⟩ := h z
  exact ⟨h1, ⟨by omega, h2.2⟩, d, h3, by omega, h5⟩
theorem Gd.frm {x : List Bool} (h : Gd L j p c a b q e r) : Gd L j p c (a ++ x) (b ++ x) q e r := fun z => by
  obtain ⟨h1, h2, d, h3, h4, h5, h6⟩ := h z
  exact ⟨h1, h2, d, h3, h4, fun s => by rw [List.append_assoc, List.append_assoc]; exact h5 (x ++ s), h6⟩
theorem Gd.tok {j' : Int} (h : Gd L j' p c a b q e r) (l : j + 1 ≤ j') : Gd L j p c a b (q - 1) e r := fun z => by
  obtain ⟨h1, h2, d, h3, h4, h5⟩ := h z
  exact ⟨⟨by omega, h1.2⟩, h2, d, h3, by omega, h5⟩
/-- an operation put ahead of the piece -/
theorem Gd.op {x : Int × Int} {a' : List Bool} (h : Gd L j p (c ++ [x]) b a' q e r) (hx : CdO x) (n : ¬ (x.1 = 0 ∨ x.1 = 1)) (t : ∀ s, trL [x] (a ++ s) = some (b ++ s)) : Gd L j p c a a' (q + 1) e r := fun z => by
  obtain ⟨h1, h2, d, h3, h4, h5, h6, h7⟩ := h z
  refine ⟨h1, h2, x :: d, by rw [h3, List.append_assoc]; rfl, by rw [List.length_cons]; omega, fun s => ?_, ?_, fun y hy => ?_⟩
  · have := trL_ap [x] d (a ++ s) _ (t s)
    rw [show x :: d = [x] ++ d from rfl, this]; exact h5 s
  · show (if x.1 = 0 ∨ x.1 = 1 then 1 else 0) + nvl d ≤ _
    rw [if_neg n]; omega
  · rcases List.mem_cons.mp hy with y1 | y1
    · rw [y1]; exact hx
    · exact h7 y y1
theorem Gd.bi {b' : List Bool} {q' e' : Int} {g : Int → Int → Cd → RR} (h : Gd L j p c a b q e r) (k : r.1 = 0 → (j ≤ r.2.1 ∧ r.2.1 ≤ L) → (p + e ≤ r.2.2.1 ∧ r.2.2.1 ≤ 60) → Gd L r.2.1 r.2.2.1 r.2.2.2 b b' q' e' (g r.2.1 r.2.2.1 r.2.2.2)) : Gd L j p c a b' (q + q') (e + e') (bn r g) := by
  by_cases z : r.1 = 0
  · rw [bn_pos z]
    intro z2
    obtain ⟨h1, h2, d, h3, h4, h5, h6, h7⟩ := h z
    obtain ⟨k1, k2, d', k3, k4, k5, k6, k7⟩ := k z h1 h2 z2
    refine ⟨⟨by omega, k1.2⟩, ⟨by omega, k2.2⟩, d ++ d', by rw [k3, h3, List.append_assoc], by rw [List.length_append]; omega, fun s => ?_, by rw [nvl_ap]; omega, fun x hx => ?_⟩
    · rw [trL_ap d d' _ _ (h5 s)]; exact k5 s
    · rcases List.mem_append.mp hx with y | y
      · exact h7 x y
      · exact k7 x y
  · rw [bn_neg z]; exact Gd.fl z
end
theorem tkK_L {tp : Int → Int} {L j : Int} (e : tkK tp L j = 1) : j < L ∧ dgP (tp j) := by
  unfold tkK at e
  by_cases c : L ≤ j
  · rw [pI_pos c] at e; omega
  rw [pI_neg c] at e
  by_cases c2 : dgP (tp j)
  · exact ⟨by omega, c2⟩
  rw [pI_neg c2] at e
  by_cases c3 : leP (tp j)
  · rw [pI_pos c3] at e; omega
  · rw [pI_neg c3] at e; omega
theorem tkV_b {tp : Int → Int} {L j : Int} (h0 : 0 ≤ j) (e : tkK tp L j = 1) : -1 ≤ tkV tp L j ∧ tkV tp L j < 100000 := by
  have k := tkK_L e
  unfold tkV
  rw [pI_neg (by omega), pI_pos k.2]
  exact numV_b h0
theorem wdx_w {tp : Int → Int} {L j : Int} (n : ¬ wdx tp L j = -1) : ∃ s, s < 20 ∧ wc tp L j = wSc s := by
  apply Classical.byContradiction
  intro no
  have a : ∀ s, s < 20 → ¬ wc tp L j = wSc s := fun s hs z => no ⟨s, hs, z⟩
  apply n
  unfold wdx
  rw [pI_neg (a 5 (by omega)), pI_neg (a 7 (by omega)), pI_neg (a 1 (by omega)), pI_neg (a 8 (by omega)), pI_neg (a 9 (by omega)), pI_neg (a 10 (by omega)), pI_neg (a 11 (by omega)), pI_neg (a 4 (by omega)), pI_neg (a 12 (by omega)), pI_neg (a 13 (by omega)), pI_neg (a 14 (by omega)), pI_neg (a 15 (by omega))]
theorem wc_L {tp : Int → Int} {L j : Int} (h0 : 0 ≤ j) (hj : j ≤ L) {s : Nat} (hs : s < 20) (e : wc tp L j = wSc s) : j < L := (wc_pos h0 hj (wSb s hs).1 e).1
theorem wdx_L {tp : Int → Int} {L j : Int} (h0 : 0 ≤ j) (hj : j ≤ L) (n : ¬ wdx tp L j = -1) : j < L := by
  obtain ⟨s, hs, e⟩ := wdx_w n
  exact wc_L h0 hj hs e
section
variable {tp : Int → Int} {L j p : Int} {c : Cd}
theorem Gd_vl (h0 : 0 ≤ j) (hj : j ≤ L) (hp : p ≤ 60) : Gd L j p c [] [false] 0 1 (vl tp L j p c) := by
  have one : ∀ x : Int × Int, CdO x → (x.1 = 0 ∨ x.1 = 1) → j < L → ¬ p = 60 → Gd L j p c [] [false] 0 1 (0, nx tp L j, p + 1, c ++ [x]) := by
    intro x hx x1 lt np _
    have b := nx_b (tp := tp) h0 hj
    have b3 := b.2.2 lt
    refine ⟨⟨b.1, b.2.1⟩, ⟨Int.le_refl _, by show p + 1 ≤ 60; omega⟩, [x], rfl, by show (1 : Int) ≤ nx tp L j - j + 0; omega, fun s => ?_, ?_, fun y hy => ?_⟩
    · show (match tr1 x.1 s with | some s' => trL [] s' | none => none) = some (false :: s)
      unfold tr1
      rw [if_pos x1]
      rfl
    · show (if x.1 = 0 ∨ x.1 = 1 then 1 else 0) + 0 ≤ p + 1 - p
      rw [if_pos x1]; omega
    · rw [List.mem_singleton.mp hy]; exact hx
  unfold vl
  by_cases c1 : tkK tp L j = 1
  · rw [pI_pos c1]
    have vb := tkV_b h0 c1
    by_cases c2 : tkV tp L j = -1
    · rw [pI_pos c2]; exact Gd.fl (by omega)
    rw [pI_neg c2]
    by_cases c3 : p = 60
    · rw [pI_pos c3]; exact Gd.fl (by omega)
    rw [pI_neg c3]
    exact one (0, tkV tp L j) ⟨⟨Int.le_refl 0, by show (0 : Int) < 16; decide⟩, ⟨by show 0 ≤ tkV tp L j; omega, vb.2⟩, fun z => absurd (show (0 : Int) = 1 from z) (by decide)⟩ (Or.inl rfl) (tkK_L c1).1 c3
  · rw [pI_neg c1]
    have wb := wdx_b tp L j
    by_cases c2 : wdx tp L j = -1
    · rw [pI_pos c2]; exact Gd.fl (by omega)
    rw [pI_neg c2]
    by_cases c3 : p = 60
    · rw [pI_pos c3]; exact Gd.fl (by omega)
    rw [pI_neg c3]
    exact one (1, wdx tp L j) ⟨⟨by show (0 : Int) ≤ 1; decide, by show (1 : Int) < 16; decide⟩, ⟨by show 0 ≤ wdx tp L j; omega, by show wdx tp L j < 100000; omega⟩, fun _ => by show wdx tp L j < 12; omega⟩ (Or.inr rfl) (wdx_L h0 hj c2) c3
end
theorem CdO_o {o : Int} (h : 2 ≤ o ∧ o < 16) : CdO (o, 0) := ⟨⟨by show 0 ≤ o; omega, h.2⟩, ⟨Int.le_refl 0, by show (0 : Int) < 100000; decide⟩, fun z => by have : o = 1 := z; omega⟩
theorem trL_ar {o : Int} (h : (2 ≤ o ∧ o ≤ 5) ∨ o = 14) (s : List Bool) : trL [(o, 0)] ([false, false] ++ s) = some ([false] ++ s) := by
  show (match tr1 o (false :: false :: s) with | some s' => trL [] s' | none => none) = _
  unfold tr1
  rw [if_neg (by omega), if_neg (by omega), if_neg (by omega), if_neg (by omega), if_pos h]
  rfl
theorem trL_sg {o : Int} (h : 6 ≤ o ∧ o ≤ 10) (s : List Bool) : trL [(o, 0)] ([false, false] ++ s) = some ([true] ++ s) := by
  show (match tr1 o (false :: false :: s) with | some s' => trL [] s' | none => none) = _
  unfold tr1
  rw [if_neg (by omega), if_neg (by omega), if_neg (by omega), if_pos h]
  rfl
theorem trL_jn {o : Int} (h : o = 12 ∨ o = 13) (s : List Bool) : trL [(o, 0)] ([true, true] ++ s) = some ([true] ++ s) := by
  show (match tr1 o (true :: true :: s) with | some s' => trL [] s' | none => none) = _
  unfold tr1
  rw [if_neg (by omega), if_neg (by omega), if_pos h]
  rfl
theorem trL_nt (s : List Bool) : trL [(11, 0)] ([true] ++ s) = some ([true] ++ s) := rfl
theorem Gd_tmR {tp : Int → Int} {L : Int} : ∀ (n : Nat) (j p : Int) (c : Cd), 0 ≤ j → j ≤ L → p ≤ 60 → Gd L j p c [false] [false] 0 0 (tmR tp L n j p c) := by
  intro n
  induction n with
  | zero => intro j p c _ _ _; exact Gd.fl (by decide)
  | succ n ih =>
    intro j p c h0 hj hp
    have ob := tmO_b (tp := tp) (L := L) (j := j)
    show Gd L j p c [false] [false] 0 0 (pI (tmO tp L j = 0) (0, j, p, c) (bn (vl tp L (nx tp L j) p c) fun j1 p1 c1 => tmR tp L n j1 p1 (c1 ++ [(tmO tp L j, 0)])))
    by_cases z : tmO tp L j = 0
    · rw [pI_pos z]; exact Gd.rf hj hp
    rw [pI_neg z]
    have b := nx_b (tp := tp) h0 hj
    refine ((Gd.tok (q := 0 + (0 + 1)) (Gd.bi (e := 1) (e' := 0) (Gd_vl (by omega) b.2.1 hp).frm (fun e1 j1 p1 => ?_)) (by omega)).mo (by omega) (by omega))
    exact Gd.op (ih _ _ _ (by omega) j1.2 p1.2) (CdO_o (by omega)) (by show ¬ (tmO tp L j = 0 ∨ tmO tp L j = 1); omega) (trL_ar (by omega))
theorem Gd_tm {tp : Int → Int} {L j p : Int} {c : Cd} (h0 : 0 ≤ j) (hj : j ≤ L) (hp : p ≤ 60) : Gd L j p c [] [false] 0 1 (tm tp L j p c) :=
  (Gd.bi (q' := 0) (e' := 0) (Gd_vl h0 hj hp) (fun _ j1 p1 => Gd_tmR 61 _ _ _ (by omega) j1.2 p1.2)).mo (by omega) (by omega)
theorem Gd_smR {tp : Int → Int} {L : Int} : ∀ (n : Nat) (j p : Int) (c : Cd), 0 ≤ j → j ≤ L → p ≤ 60 → Gd L j p c [false] [false] 0 0 (smR tp L n j p c) := by
  intro n
  induction n with
  | zero => intro j p c _ _ _; exact Gd.fl (by decide)
  | succ n ih =>
    intro j p c h0 hj hp
    have ob := smO_b (tp := tp) (L := L) (j := j)
    show Gd L j p c [false] [false] 0 0 (pI (smO tp L j = 0) (0, j, p, c) (bn (tm tp L (nx tp L j) p c) fun j1 p1 c1 => smR tp L n j1 p1 (c1 ++ [(smO tp L j, 0)])))
    by_cases z : smO tp L j = 0
    · rw [pI_pos z]; exact Gd.rf hj hp
    rw [pI_neg z]
    have b := nx_b (tp := tp) h0 hj
    refine ((Gd.tok (q := 0 + (0 + 1)) (Gd.bi (e := 1) (e' := 0) (Gd_tm (by omega) b.2.1 hp).frm (fun e1 j1 p1 => ?_)) (by omega)).mo (by omega) (by omega))
    exact Gd.op (ih _ _ _ (by omega) j1.2 p1.2) (CdO_o (by omega)) (by show ¬ (smO tp L j = 0 ∨ smO tp L j = 1); omega) (trL_ar (by omega))
theorem Gd_sm {tp : Int → Int} {L j p : Int} {c : Cd} (h0 : 0 ≤ j) (hj : j ≤ L) (hp : p ≤ 60) : Gd L j p c [] [false] 0 1 (sm tp L j p c) :=
  (Gd.bi (q' := 0) (e' := 0) (Gd_tm h0 hj hp) (fun _ j1 p1 => Gd_smR 61 _ _ _ (by omega) j1.2 p1.2)).mo (by omega) (by omega)
theorem Gd_cp {tp : Int → Int} {L j p : Int} {c : Cd} (h0 : 0 ≤ j) (hj : j ≤ L) (hp : p ≤ 60) : Gd L j p c [] [true] 0 1 (cp tp L j p c) := by
  refine (Gd.bi (q' := 0) (e' := 0) (Gd_sm h0 hj hp) (fun e1 hj1 hp1 => ?_)).mo (by omega) (by omega)
  generalize (sm tp L j p c).2.1 = j1 at *
  generalize (sm tp L j p c).2.2.1 = p1 at *
  have ob := sgO_b (tp := tp) (L := L) (j := j1)
  by_cases z : sgO tp L j1 = 0
  · rw [pI_pos z]; exact Gd.fl (by omega)
  rw [pI_neg z]
  by_cases z2 : p1 = 60
  · rw [pI_pos z2]; exact Gd.fl (by omega)
  rw [pI_neg z2]
  have b := nx_b (tp := tp) (L := L) (j := j1) (by omega) (by omega)
  have g : ∀ c1 : Cd, Gd L (nx tp L j1) (p1 + 1) c1 [false] [true] 1 1 (bn (sm tp L (nx tp L j1) (p1 + 1) c1) fun j2 p2 c2 => (0, j2, p2, c2 ++ [(sgO tp L j1, 0)])) := fun c1 =>
    (Gd.bi (q := 0) (q' := 0 + 1) (e := 1) (e' := 0) (Gd_sm (by omega) b.2.1 (by omega)).frm (fun e2 j2 p2 => Gd.op (Gd.rf j2.2 p2.2) (CdO_o (by omega)) (by show ¬ (sgO tp L j1 = 0 ∨ sgO tp L j1 = 1); omega) (trL_sg (by omega)))).mo (by omega) (by omega)
  intro z3
  obtain ⟨g1, g2, d, g3, g4, g5, g6, g7⟩ := g _ z3
  exact ⟨⟨by omega, g1.2⟩, ⟨by omega, g2.2⟩, d, g3, by omega, g5, by omega, g7⟩
def fb (x : Bool) : List Bool := if x then [true] else []
def nb (x : Bool) : Int := if x then 1 else 0
theorem Gd_aL {L j p : Int} {c : Cd} {x : List Bool} {a : Bool} {q e : Int} {b : List Bool} {r : RR} (h : Gd L j p (c ++ aLc a) ([true] ++ x) b q e r) : Gd L j p c ([true] ++ (fb a ++ x)) b (q + nb a) e r := by
  cases a with
  | false =>
    rw [show c ++ aLc false = c from List.append_nil c] at h
    exact h.mo (by show q ≤ q + 0; omega) (by omega)
  | true => exact Gd.op (a := [true] ++ (fb true ++ x)) h (CdO_o (by omega)) (by decide) (fun s => trL_jn (Or.inl rfl) (x ++ s))
theorem Gd_oL {L j p : Int} {c : Cd} {x : List Bool} {a : Bool} {q e : Int} {b : List Bool} {r : RR} (h : Gd L j p (c ++ oL a) ([true] ++ x) b q e r) : Gd L j p c ([true] ++ (fb a ++ x)) b (q + nb a) e r := by
  cases a with
  | false =>
    rw [show c ++ oL false = c from List.append_nil c] at h
    exact h.mo (by show q ≤ q + 0; omega) (by omega)
  | true => exact Gd.op (a := [true] ++ (fb true ++ x)) h (CdO_o (by omega)) (by decide) (fun s => trL_jn (Or.inr rfl) (x ++ s))
theorem Gd_ft {tp : Int → Int} {L : Int} : ∀ (n : Nat) (dp : Int) (j p : Int) (c : Cd), 0 ≤ j → j ≤ L → p ≤ 60 → Gd L j p c [] [true] 0 1 (ft tp L n false dp false false j p c) ∧ ∀ o a : Bool, Gd L j p c (fb a ++ fb o) [true] (nb a + nb o) 1 (ft tp L n true dp o a j p c) := by
  intro n
  induction n with
  | zero => intro dp j p c _ _ _; exact ⟨Gd.fl (by decide), fun _ _ => Gd.fl (by decide)⟩
  | succ n ih =>
    intro dp j p c h0 hj hp
    have b := nx_b (tp := tp) h0 hj
    constructor
    · rw [ft_f]
      by_cases z : wc tp L j = wSc 17 ∨ mrk tp L j 91
      rotate_left
      · rw [pI_neg z]; exact Gd_cp h0 hj hp
      rw [pI_pos z]
      have lt : j < L := by
        rcases z with z | z
        · exact wc_L h0 hj (by decide) z
        · exact z.1
      by_cases z2 : dp = 10
      · rw [pI_pos z2]; exact Gd.fl (by omega)
      rw [pI_neg z2]
      by_cases z3 : wc tp L j = wSc 17
      · rw [pI_pos z3]
        exact (Gd.tok (Gd.bi (q' := 0 + 1) (e' := 0) (ih (dp + 1) (nx tp L j) p c (by omega) b.2.1 hp).1 (fun e1 j1 p1 => Gd.op (Gd.rf j1.2 p1.2) (CdO_o (by omega)) (by decide) trL_nt)) (by omega)).mo (by omega) (by omega)
      · rw [pI_neg z3]
        refine (Gd.tok (Gd.bi (q' := 0) (e' := 0) ((ih (dp + 1) (nx tp L j) p c (by omega) b.2.1 hp).2 false false) (fun e1 hj1 hp1 => ?_)) (by omega)).mo (by show nb false + nb false + 0 - 1 ≤ 0; decide) (by omega)
        generalize (ft tp L n true (dp + 1) false false (nx tp L j) p c).2.1 = j1 at *
        generalize (ft tp L n true (dp + 1) false false (nx tp L j) p c).2.2.1 = p1 at *
        by_cases z4 : mrk tp L j1 93
        · rw [pI_pos z4]
          have b1 := nx_b (tp := tp) (L := L) (j := j1) (by omega) (by omega)
          exact (Gd.tok (Gd.rf b1.2.1 hp1.2) (by have := z4.1; omega)).mo (by omega) (by omega)
        · rw [pI_neg z4]; exact Gd.fl (by omega)
    · intro o a
      rw [ft_t]
      refine (Gd.bi (q' := nb a + nb o) (e' := 0) (Gd.frm (x := fb a ++ fb o) (ih dp j p c h0 hj hp).1) (fun e1 hj1 hp1 => ?_)).mo (by omega) (by omega)
      generalize (ft tp L n false dp false false j p c).2.1 = j1 at *
      generalize (ft tp L n false dp false false j p c).2.2.1 = p1 at *
      generalize (ft tp L n false dp false false j p c).2.2.2 = c1 at *
      have b1 := nx_b (tp := tp) (L := L) (j := j1) (by omega) (by omega)
      by_cases z : wc tp L j1 = wSc 18
      · rw [pI_pos z]
        have lt := wc_L (by omega) (by omega) (by decide) z
        refine Gd.mo (q := nb o + nb a) (e := 0) ?_ (by omega) (by omega)
        refine Gd_aL ?_
        have g := (ih dp (nx tp L j1) p1 (c1 ++ aLc a) (by omega) b1.2.1 hp1.2).2 o true
        have e2 : nb true + nb o - 1 = nb o := by show 1 + nb o - 1 = nb o; omega
        exact (g.tok (by omega)).mo (by omega) (by omega)
      · rw [pI_neg z]
        by_cases z2 : wc tp L j1 = wSc 19
        · rw [pI_pos z2]
          have lt := wc_L (by omega) (by omega) (by decide) z2
          refine Gd.mo (q := 0 + nb o + nb a) (e := 0) ?_ (by omega) (by omega)
          refine Gd_aL ?_
          rw [show fb o = fb o ++ [] from (List.append_nil _).symm]
          refine Gd_oL ?_
          have g := (ih dp (nx tp L j1) p1 (c1 ++ aLc a ++ oL o) (by omega) b1.2.1 hp1.2).2 true false
          have e2 : nb false + nb true - 1 = 0 := by decide
          exact (g.tok (by omega)).mo (by omega) (by omega)
        · rw [pI_neg z2]
          refine Gd.mo (q := 0 + nb o + nb a) (e := 0) ?_ (by omega) (by omega)
          refine Gd_aL ?_
          rw [show fb o = fb o ++ [] from (List.append_nil _).symm]
          refine Gd_oL ?_
          exact Gd.rf hj1.2 hp1.2
