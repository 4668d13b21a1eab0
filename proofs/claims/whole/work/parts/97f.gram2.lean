/-! RULES: clauses and whole texts; what was read is a rule. -/
abbrev En : Type := List (Int × Int)
abbrev RT : Type := Int × Int × Int × Cd × En
def flT (f : Int) : RT := (f, 0, 0, [], [])
noncomputable def gT (q : RR) (se : Int) (e : En) : RT := pI (q.1 = 0) (0, q.2.1, q.2.2.1, q.2.2.2, e ++ [(se, (q.2.2.2.length : Int))]) (flT q.1)
noncomputable def gB (tp : Int → Int) (L : Int) (r : RR) (e : En) : RT := pI (r.1 = 0) (pI (wc tp L r.2.1 = wSc 16) (gT (ft tp L 802 true 0 false false (nx tp L r.2.1) r.2.2.1 r.2.2.2) r.2.2.2.length e) (0, r.2.1, r.2.2.1, r.2.2.2, e ++ [((r.2.2.2.length : Int), (r.2.2.2.length : Int))])) (flT r.1)
noncomputable def gc (tp : Int → Int) (L j p : Int) (c : Cd) (e : En) : RT := pI (wc tp L j = wSc 6) (pI ((e.length : Int) = 12) (flT (1 + 8 * j + 4)) (gB tp L (sm tp L (nx tp L j) p c) e)) (flT (1 + 8 * j))
noncomputable def rdR (tp : Int → Int) (L : Int) : Nat → Int → Int → Cd → En → RT
  | 0, _, _, _, _ => flT 1
  | m + 1, j, p, c, e => pI ((gc tp L j p c e).1 = 0) (pI (L ≤ (gc tp L j p c e).2.1) (gc tp L j p c e) (pI (tp (gc tp L j p c e).2.1 = 59) (rdR tp L m (nx tp L (gc tp L j p c e).2.1) (gc tp L j p c e).2.2.1 (gc tp L j p c e).2.2.2.1 (gc tp L j p c e).2.2.2.2) (flT (1 + 8 * (gc tp L j p c e).2.1)))) (flT (gc tp L j p c e).1)
noncomputable def rsR (tp : Int → Int) (L : Int) (m : Nat) (q : RT) : RT := pI (q.1 = 0) (pI (L ≤ q.2.1) q (pI (tp q.2.1 = 59) (rdR tp L m (nx tp L q.2.1) q.2.2.1 q.2.2.2.1 q.2.2.2.2) (flT (1 + 8 * q.2.1)))) (flT q.1)
theorem rdR_s (tp : Int → Int) (L : Int) (m : Nat) (j p : Int) (c : Cd) (e : En) : rdR tp L (m + 1) j p c e = rsR tp L m (gc tp L j p c e) := rfl
def Sm1 (d1 : Cd) : Prop := (∀ s, trL d1 s = some (false :: s)) ∧ nvl d1 ≤ 60 ∧ ∀ x ∈ d1, CdO x
def Ts1 (d2 : Cd) : Prop := d2 = [] ∨ (∀ s, trL d2 s = some (true :: s)) ∧ nvl d2 ≤ 60 ∧ ∀ x ∈ d2, CdO x
def nwE (c d1 d2 : Cd) (e : En) : En := e ++ [(((c ++ d1).length : Int), ((c ++ d1 ++ d2).length : Int))]
/-- code c and ends e, made clause by clause -/
def Blt (c : Cd) (e : En) : Prop := ∀ P : Cd → En → Prop, P [] [] → (∀ (c : Cd) (e : En) (d1 d2 : Cd), P c e → Sm1 d1 → Ts1 d2 → P (c ++ d1 ++ d2) (nwE c d1 d2 e)) → P c e
theorem Blt.z : Blt [] [] := fun _ z _ => z
theorem Blt.s {c : Cd} {e : En} (d1 d2 : Cd) (B : Blt c e) (h1 : Sm1 d1) (h2 : Ts1 d2) : Blt (c ++ d1 ++ d2) (nwE c d1 d2 e) := fun P z s => s c e d1 d2 (B P z s) h1 h2
def eX (e : En) (i : Int) : Int × Int := e.getD i.toNat (0, 0)
theorem eX_lt {e : En} {x : Int × Int} {i : Int} (h : 0 ≤ i ∧ i < e.length) : eX (e ++ [x]) i = eX e i := cX_lt h
theorem eX_eq {e : En} {x : Int × Int} : eX (e ++ [x]) e.length = x := cX_eq
def tbE (e : En) (k : Int) : Int := if k = 0 then 0 else (eX e (k - 1)).2
def mkR (c : Cd) (e : En) : Ru := ((e.length : Int), fun k => (eX e k).1, fun k => (eX e k).2, fun i => (cX c i).1, fun i => (cX c i).2)
theorem Blt.last {c : Cd} {e : En} (B : Blt c e) : tbE e e.length = c.length := by
  refine B (fun c e => tbE e e.length = c.length) rfl (fun c e d1 d2 _ _ _ => ?_)
  unfold tbE nwE
  rw [len_ap, if_neg (by omega), show ((e.length : Int) + 1 - 1) = e.length by omega, eX_eq]
/-- a clause of a rule, as pieces of its code -/
def Sgm (c : Cd) (b s t : Int) : Prop := ∃ a d1 d2 z : Cd, c = a ++ (d1 ++ (d2 ++ z)) ∧ b = a.length ∧ s = a.length + d1.length ∧ t = a.length + d1.length + d2.length ∧ Sm1 d1 ∧ Ts1 d2
theorem Blt.sg {c : Cd} {e : En} (B : Blt c e) : ∀ k : Int, 0 ≤ k → k < e.length → Sgm c (tbE e k) (eX e k).1 (eX e k).2 := by
  refine (B (fun c e => Blt c e ∧ ∀ k : Int, 0 ≤ k → k < e.length → Sgm c (tbE e k) (eX e k).1 (eX e k).2) ⟨Blt.z, fun k k0 k1 => ?_⟩ (fun c e d1 d2 ih h1 h2 => ⟨Blt.s d1 d2 ih.1 h1 h2, ?_⟩)).2
  · have : (([] : En).length : Int) = 0 := rfl
    omega
  · unfold nwE
    intro k k0 k1
    rw [len_ap] at k1
    by_cases q : k = e.length
    · have tb : tbE (e ++ [(((c ++ d1).length : Int), ((c ++ d1 ++ d2).length : Int))]) k = c.length := by
        have la := ih.1.last
        unfold tbE at la ⊢
        by_cases k00 : k = 0
        · rw [if_pos k00]; rw [if_pos (by omega)] at la; exact la
        · rw [if_neg k00, eX_lt (by omega)]; rw [if_neg (by omega), ← q] at la; exact la
      rw [tb, q, eX_eq]
      exact ⟨c, d1, d2, [], by rw [List.append_nil, List.append_assoc], rfl, by show ((c ++ d1).length : Int) = _; rw [List.length_append]; omega, by show ((c ++ d1 ++ d2).length : Int) = _; rw [List.length_append, List.length_append]; omega, h1, h2⟩
    · have tb : tbE (e ++ [(((c ++ d1).length : Int), ((c ++ d1 ++ d2).length : Int))]) k = tbE e k := by
        unfold tbE
        by_cases k00 : k = 0
        · rw [if_pos k00, if_pos k00]
        · rw [if_neg k00, if_neg k00, eX_lt (by omega)]
      rw [tb, eX_lt (by omega)]
      obtain ⟨a, x1, x2, z, e1, e2, e3, e4, e5, e6⟩ := ih.2 k k0 (by omega)
      exact ⟨a, x1, x2, z ++ (d1 ++ d2), by rw [e1]; simp only [List.append_assoc], e2, e3, e4, e5, e6⟩
theorem cX_sg {a d z : Cd} {i : Nat} (h : i < d.length) : cX (a ++ (d ++ z)) (a.length + i : Int) = d[i] := by
  unfold cX
  rw [List.getD_eq_getElem?_getD, show ((a.length : Int) + i).toNat = a.length + i by omega, List.getElem?_append_right (by omega), show a.length + i - a.length = i by omega, List.getElem?_append_left h, List.getElem?_eq_getElem h]
  rfl
theorem tr_sg : ∀ (d a z : Cd) (s : List Bool), tr (fun i => (cX (a ++ (d ++ z)) i).1) d.length a.length s = trL d s := by
  intro d
  induction d with
  | nil => intro a z s; rfl
  | cons x d ih =>
    intro a z s
    have e0 : cX (a ++ (x :: d ++ z)) (a.length : Int) = x := by
      have := cX_sg (a := a) (d := x :: d) (z := z) (i := 0) (by rw [List.length_cons]; omega)
      rw [show ((a.length : Int) + ((0 : Nat) : Int)) = a.length by omega] at this
      exact this
    show (match tr1 (cX (a ++ (x :: d ++ z)) (a.length : Int)).1 s with | some s' => tr (fun i => (cX (a ++ (x :: d ++ z)) i).1) d.length ((a.length : Int) + 1) s' | none => none) = (match tr1 x.1 s with | some s' => trL d s' | none => none)
    rw [e0]
    cases tr1 x.1 s with
    | none => rfl
    | some u =>
      have := ih (a ++ [x]) z u
      rw [len_ap, List.append_assoc] at this
      exact this
theorem nvc_sg : ∀ (d a z : Cd), (nvc (fun i => (cX (a ++ (d ++ z)) i).1) d.length a.length : Int) = nvl d := by
  intro d
  induction d with
  | nil => intro a z; rfl
  | cons x d ih =>
    intro a z
    have e0 : cX (a ++ (x :: d ++ z)) (a.length : Int) = x := by
      have := cX_sg (a := a) (d := x :: d) (z := z) (i := 0) (by rw [List.length_cons]; omega)
      rw [show ((a.length : Int) + ((0 : Nat) : Int)) = a.length by omega] at this
      exact this
    have i' := ih (a ++ [x]) z
    rw [len_ap, List.append_assoc] at i'
    show (((if (cX (a ++ (x :: d ++ z)) (a.length : Int)).1 = 0 ∨ (cX (a ++ (x :: d ++ z)) (a.length : Int)).1 = 1 then 1 else 0) + nvc (fun i => (cX (a ++ (x :: d ++ z)) i).1) d.length ((a.length : Int) + 1) : Nat) : Int) = (if x.1 = 0 ∨ x.1 = 1 then 1 else 0) + nvl d
    rw [e0, ← i']
    by_cases q : x.1 = 0 ∨ x.1 = 1
    · rw [if_pos q, if_pos q, Int.natCast_add]; rfl
    · rw [if_neg q, if_neg q, Int.natCast_add]; rfl
theorem trL_ne {d : Cd} {b : Bool} (h : ∀ s, trL d s = some (b :: s)) : ¬ d = [] := fun z => by
  have := h []
  rw [z] at this
  cases this
theorem Blt.ok {c : Cd} {e : En} (B : Blt c e) (he : e.length ≤ 12) (hc : c.length ≤ 400) : RuleOK (mkR c e) := by
  refine ⟨⟨by show (0 : Int) ≤ e.length; omega, by show (e.length : Int) ≤ 12; omega⟩, fun k k0 k1 => ?_⟩
  obtain ⟨a, d1, d2, z, e1, e2, e3, e4, e5, e6⟩ := B.sg k k0 k1
  have tbq : tb (mkR c e) k = a.length := e2
  have seq : sE (mkR c e) k = a.length + d1.length := e3
  have teq : tE (mkR c e) k = a.length + d1.length + d2.length := e4
  have opq : oP (mkR c e) = fun i => (cX (a ++ (d1 ++ (d2 ++ z))) i).1 := by rw [← e1]; rfl
  have lc : c.length = a.length + (d1.length + (d2.length + z.length)) := by rw [e1]; simp only [List.length_append]
  rw [tbq, seq, teq, opq]
  refine ⟨by omega, ⟨?_, ?_⟩, fun ne => ?_, fun i i0 i1 => ?_⟩
  · rw [show ((a.length : Int) + d1.length - a.length).toNat = d1.length by omega, tr_sg d1 a (d2 ++ z)]; exact e5.1 []
  · have := nvc_sg d1 a (d2 ++ z)
    rw [show ((a.length : Int) + d1.length - a.length).toNat = d1.length by omega]
    have := e5.2.1
    omega
  · rcases e6 with z0 | e6
    · exact absurd (by rw [z0]; show _ = _ + ((0 : Nat) : Int); omega) ne
    · have e7 : a ++ (d1 ++ (d2 ++ z)) = (a ++ d1) ++ (d2 ++ z) := by rw [List.append_assoc]
      have l7 : ((a ++ d1).length : Int) = a.length + d1.length := by rw [List.length_append]; omega
      rw [show ((a.length : Int) + d1.length + d2.length - (a.length + d1.length)).toNat = d2.length by omega, e7, ← l7]
      refine ⟨by rw [tr_sg d2 (a ++ d1) z]; exact e6.1 [], ?_⟩
      have := nvc_sg d2 (a ++ d1) z
      have := e6.2.1
      omega
  · have gx : CdO (cX c i) := by
      by_cases q : i < a.length + d1.length
      · have := cX_sg (a := a) (d := d1) (z := d2 ++ z) (i := (i - a.length).toNat) (by omega)
        rw [show ((a.length : Int) + ((i - a.length).toNat : Int)) = i by omega, ← e1] at this
        rw [this]; exact e5.2.2 _ (List.getElem_mem _)
      · rcases e6 with z0 | e6
        · rw [z0] at i1; have : (([] : Cd).length : Int) = 0 := rfl; omega
        · have e7 : a ++ (d1 ++ (d2 ++ z)) = (a ++ d1) ++ (d2 ++ z) := by rw [List.append_assoc]
          have l7 : ((a ++ d1).length : Int) = a.length + d1.length := by rw [List.length_append]; omega
          have := cX_sg (a := a ++ d1) (d := d2) (z := z) (i := (i - (a ++ d1).length).toNat) (by omega)
          rw [show (((a ++ d1).length : Int) + ((i - (a ++ d1).length).toNat : Int)) = i by omega, ← e7, ← e1] at this
          rw [this]; exact e6.2.2 _ (List.getElem_mem _)
    exact gx
/-- what a text read so far is -/
def RI (L j p : Int) (c : Cd) (e : En) : Prop := (0 ≤ j ∧ j ≤ L) ∧ (0 ≤ p ∧ p ≤ 60) ∧ (c.length : Int) ≤ j ∧ e.length ≤ 12 ∧ Blt c e
theorem gc_ok {tp : Int → Int} {L j p : Int} {c : Cd} {e : En} (I : RI L j p c e) (z : (gc tp L j p c e).1 = 0) : RI L (gc tp L j p c e).2.1 (gc tp L j p c e).2.2.1 (gc tp L j p c e).2.2.2.1 (gc tp L j p c e).2.2.2.2 ∧ (gc tp L j p c e).2.2.2.2.length = e.length + 1 := by
  obtain ⟨hj, hp, hc, he, B⟩ := I
  unfold gc at z ⊢
  by_cases w : wc tp L j = wSc 6
  rotate_left
  · rw [pI_neg w] at z; exact absurd z (by show ¬ 1 + 8 * j = 0; omega)
  rw [pI_pos w] at z ⊢
  by_cases n : (e.length : Int) = 12
  · rw [pI_pos n] at z; exact absurd z (by show ¬ 1 + 8 * j + 4 = 0; omega)
  rw [pI_neg n] at z ⊢
  unfold gB at z ⊢
  have lt := wc_L hj.1 hj.2 (by decide) w
  have b := nx_b (tp := tp) (L := L) (j := j) hj.1 hj.2
  by_cases s0 : (sm tp L (nx tp L j) p c).1 = 0
  rotate_left
  · rw [pI_neg s0] at z; exact absurd z s0
  rw [pI_pos s0] at z ⊢
  obtain ⟨g1, g2, d1, g3, g4, g5, g6, g7⟩ := Gd_sm (tp := tp) (c := c) (by omega) b.2.1 hp.2 s0
  generalize (sm tp L (nx tp L j) p c).2.1 = j1 at *
  generalize (sm tp L (nx tp L j) p c).2.2.1 = p1 at *
  generalize (sm tp L (nx tp L j) p c).2.2.2 = c1 at *
  subst g3
  have H1 : Sm1 d1 := ⟨g5, by omega, g7⟩
  have la : ((c ++ d1).length : Int) = c.length + d1.length := by rw [List.length_append]; omega
  by_cases f : wc tp L j1 = wSc 16
  rotate_left
  · rw [pI_neg f]
    have B2 := Blt.s d1 [] B H1 (Or.inl rfl)
    unfold nwE at B2
    rw [List.append_nil] at B2
    refine ⟨⟨⟨by show 0 ≤ j1; omega, g1.2⟩, ⟨by show 0 ≤ p1; omega, g2.2⟩, by show ((c ++ d1).length : Int) ≤ j1; omega, ?_, B2⟩, ?_⟩
    · show (e ++ [_]).length ≤ 12; rw [List.length_append]; show e.length + 1 ≤ 12; omega
    · show (e ++ [_]).length = _; rw [List.length_append]; rfl
  rw [pI_pos f] at z ⊢
  unfold gT at z ⊢
  have b1 := nx_b (tp := tp) (L := L) (j := j1) (by omega) g1.2
  have lt1 := wc_L (by omega) g1.2 (by decide) f
  by_cases t0 : (ft tp L 802 true 0 false false (nx tp L j1) p1 (c ++ d1)).1 = 0
  rotate_left
  · rw [pI_neg t0] at z; exact absurd z t0
  rw [pI_pos t0]
  obtain ⟨y1, y2, d2, y3, y4, y5, y6, y7⟩ := (Gd_ft (tp := tp) (L := L) 802 0 (nx tp L j1) p1 (c ++ d1) (by omega) b1.2.1 g2.2).2 false false t0
  generalize (ft tp L 802 true 0 false false (nx tp L j1) p1 (c ++ d1)).2.1 = j2 at *
  generalize (ft tp L 802 true 0 false false (nx tp L j1) p1 (c ++ d1)).2.2.1 = p2 at *
  generalize (ft tp L 802 true 0 false false (nx tp L j1) p1 (c ++ d1)).2.2.2 = c2 at *
  subst y3
  have nb0 : nb false + nb false = 0 := by decide
  have lb : ((c ++ d1 ++ d2).length : Int) = (c ++ d1).length + d2.length := by rw [List.length_append (as := c ++ d1)]; omega
  refine ⟨⟨⟨by show 0 ≤ j2; omega, y1.2⟩, ⟨by show 0 ≤ p2; omega, y2.2⟩, by show ((c ++ d1 ++ d2).length : Int) ≤ j2; omega, ?_, Blt.s d1 d2 B H1 (Or.inr ⟨y5, by omega, y7⟩)⟩, ?_⟩
  · show (e ++ [_]).length ≤ 12; rw [List.length_append]; show e.length + 1 ≤ 12; omega
  · show (e ++ [_]).length = _; rw [List.length_append]; rfl
theorem rdR_ok {tp : Int → Int} {L : Int} : ∀ (m : Nat) (j p : Int) (c : Cd) (e : En), RI L j p c e → (rdR tp L m j p c e).1 = 0 → RI L (rdR tp L m j p c e).2.1 (rdR tp L m j p c e).2.2.1 (rdR tp L m j p c e).2.2.2.1 (rdR tp L m j p c e).2.2.2.2 := by
  intro m
  induction m with
  | zero => intro j p c e _ z; exact absurd (show (1 : Int) = 0 from z) (by decide)
  | succ m ih =>
    intro j p c e I z
    rw [rdR_s] at z ⊢
    unfold rsR at z ⊢
    by_cases g : (gc tp L j p c e).1 = 0
    rotate_left
    · rw [pI_neg g] at z; exact absurd z g
    have k := gc_ok I g
    rw [pI_pos g] at z ⊢
    generalize gc tp L j p c e = q at *
    by_cases l : L ≤ q.2.1
    · rw [pI_pos l]; exact k.1
    rw [pI_neg l] at z ⊢
    by_cases s : tp q.2.1 = 59
    rotate_left
    · rw [pI_neg s] at z
      have := k.1.1
      exact absurd z (by show ¬ 1 + 8 * q.2.1 = 0; omega)
    rw [pI_pos s] at z ⊢
    have b := nx_b (tp := tp) (L := L) (j := q.2.1) k.1.1.1 k.1.1.2
    obtain ⟨k1, k2, k3, k4, k5⟩ := k.1
    exact ih _ _ _ _ ⟨by omega, k2, by omega, k4, k5⟩ z
