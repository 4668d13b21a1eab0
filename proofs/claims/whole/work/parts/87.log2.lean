/-! What a search's log tells. -/
section
variable {S : Int → Int} {t : Prop} {m : Nat} {w : Int} {st : Int → Int → Int} {pa : Int → Int} {la : Int → Int × Int × Int} {R T H : Int} {G : (Int → Int) → Prop}
theorem RK_LW : ∀ (j : Nat) (f : Int → Int) (us : List Int), RK (Edg S t m w) G j f → LW S t m w st R us f → ∃ bs e, LW S t m w st R (bs ++ us) e ∧ G e ∧ bs.length = j := by
  intro j
  induction j with
  | zero => intro f us r l; exact ⟨[], f, l, r, rfl⟩
  | succ j ih =>
    intro f us r l
    obtain ⟨g, ⟨p, d, q, hl⟩, r⟩ := r
    cases us with
    | nil => exact l.elim
    | cons u us =>
      obtain ⟨bs, e, l2, ge, bl⟩ := ih g (lab p d q :: u :: us) r ⟨f, p, d, q, l, hl, rfl⟩
      exact ⟨bs ++ [lab p d q], e, by rw [List.append_assoc]; exact l2, ge, by rw [List.length_append, bl]; rfl⟩
theorem LW_RK : ∀ (ws : List Int) (e : Int → Int) (j : Nat), LW S t m w st R ws e → RK (Edg S t m w) G j e → ∃ a r, ws = a ++ [r] ∧ (0 ≤ r ∧ r < R) ∧ RK (Edg S t m w) G (j + a.length) (st r) := by
  intro ws
  induction ws with
  | nil => intro e j l; exact l.elim
  | cons x ws ih =>
    intro e j l r
    cases ws with
    | nil => exact ⟨[], x, rfl, l.1, by rw [← l.2]; exact r⟩
    | cons y ws =>
      obtain ⟨f, p, d, q, l2, hl, _⟩ := l
      obtain ⟨a, r0, e1, hr, rk⟩ := ih f (j + 1) l2 ⟨e, ⟨p, d, q, hl⟩, r⟩
      exact ⟨x :: a, r0, by rw [e1]; rfl, hr, by rw [show j + (x :: a).length = j + 1 + a.length by simp; omega]; exact rk⟩
/-- one root; the first wanted one tells how far it is -/
theorem IsD_found (L : LogOK S t m w st pa la 1 T) (hF : 0 ≤ H ∧ H < T) (P : LogPr S t m w st pa la 1 T H) (gF : G (st H)) (nG : ∀ i, 0 ≤ i → i < H → ¬ G (st i)) {ks : List Int} (kF : KY pa la 1 ks H) : IsD (Edg S t m w) G (st 0) ((ks.length : Int) - 1) := by
  have kl := KY_len kF
  right
  refine ⟨by omega, ?_, fun j r => ?_⟩
  · obtain ⟨a, r, e, hr, rk⟩ := LW_RK ks (st H) 0 (KY_LW L ks H hF.1 hF.2 kF) gF
    have r0 : r = 0 := by omega
    subst r0
    have : ((ks.length : Int) - 1).toNat = 0 + a.length := by rw [e, List.length_append]; simp
    rw [this]; exact rk
  · obtain ⟨bs, e, l, ge, bl⟩ := RK_LW (R := 1) (st := st) j (st 0) [0] r ⟨by decide, rfl⟩
    have := (LW_first L hF P nG kF l ge).1
    rw [List.length_append, bl] at this
    simp at this
    omega
theorem IsD_none (L : LogOK S t m w st pa la 1 T) (P : LogPr S t m w st pa la 1 T T) (nG : ∀ i, 0 ≤ i → i < T → ¬ G (st i)) : IsD (Edg S t m w) G (st 0) (-1) := by
  left
  refine ⟨rfl, fun j r => ?_⟩
  obtain ⟨bs, e, l, ge, bl⟩ := RK_LW (R := 1) (st := st) j (st 0) [0] r ⟨by decide, rfl⟩
  obtain ⟨i, hi, si⟩ := LW_all L P l
  exact nG i hi.1 hi.2 (by rw [si]; exact ge)
theorem KY_drop (L : LogOK S t m w st pa la R T) {ks : List Int} {F : Int} (hF : 0 ≤ F ∧ F < T) (ky : KY pa la R ks F) : ∀ n : Nat, n < ks.length → (0 ≤ upk pa n F ∧ upk pa n F < T) ∧ KY pa la R (ks.drop n) (upk pa n F) := by
  intro n
  induction n with
  | zero => intro _; exact ⟨hF, ky⟩
  | succ n ih =>
    intro hn
    obtain ⟨hu, kk⟩ := ih (by omega)
    rw [upk_s]
    have dl : 1 < (ks.drop n).length := by rw [List.length_drop]; omega
    have dd : ks.drop (n + 1) = (ks.drop n).tail := by rw [List.tail_drop]
    rw [dd]
    cases hk : ks.drop n with
    | nil => rw [hk] at dl; simp at dl
    | cons u ls =>
      cases ls with
      | nil => rw [hk] at dl; simp at dl
      | cons v ls =>
        rw [hk] at kk
        have py := (L.2.2.1 _ kk.1 hu.2).1
        exact ⟨⟨py.1, by omega⟩, kk.2.2⟩
/-- down the row to what was found -/
theorem row_RK (L : LogOK S t m w st pa la R T) {ks : List Int} {F : Int} (hF : 0 ≤ F ∧ F < T) (ky : KY pa la R ks F) (gF : G (st F)) : ∀ n : Nat, n < ks.length → RK (Edg S t m w) G n (st (upk pa n F)) := by
  intro n
  induction n with
  | zero => intro _; exact gF
  | succ n ih =>
    intro hn
    obtain ⟨hu, kk⟩ := KY_drop L hF ky n (by omega)
    have dl : 1 < (ks.drop n).length := by rw [List.length_drop]; omega
    cases hk : ks.drop n with
    | nil => rw [hk] at dl; simp at dl
    | cons u ls =>
      cases ls with
      | nil => rw [hk] at dl; simp at dl
      | cons v ls =>
        rw [hk] at kk
        have py := L.2.2.1 _ kk.1 hu.2
        rw [upk_s]
        exact ⟨_, ⟨_, _, _, py.2⟩, ih (by omega)⟩
end
/-- the row found is the first one -/
theorem row_GrW {S : Int → Int} {t : Prop} {m : Nat} {st : Int → Int → Int} {pa : Int → Int} {la : Int → Int × Int × Int} {T F : Int} {G : (Int → Int) → Prop} (L : LogOK S t m (-1) st pa la 1 T) (hF : 0 ≤ F ∧ F < T) (P : LogPr S t m (-1) st pa la 1 T F) (gF : G (st F)) (nG : ∀ i, 0 ≤ i → i < F → ¬ G (st i)) {v : Nat} {ks : List Int} (kF : KY pa la 1 ks F) (kv : ks.length = v + 1) :
    GrW S t m (IsD (Edg S t m (-1)) G) v (st 0) v (fun i => st (upk pa (v - i) F)) (fun i => la (upk pa (v - (i + 1)) F)) := by
  have D := IsD_found L hF P gF nG kF
  have dm : ∀ j : Nat, RK (Edg S t m (-1)) G j (st 0) → v ≤ j := by
    intro j r
    rcases D with ⟨_, z⟩ | ⟨_, _, z⟩
    · exact absurd r (z j)
    · have := z j r; omega
  refine ⟨?_, fun i hi => ?_⟩
  · -- the root
    have k0 := (KY_drop L hF kF v (by omega)).2
    have hu := (KY_drop L hF kF v (by omega)).1
    have dl : (ks.drop v).length = 1 := by rw [List.length_drop]; omega
    dsimp only
    rw [Nat.sub_zero]
    cases hk : ks.drop v with
    | nil => rw [hk] at dl; simp at dl
    | cons u ls =>
      cases ls with
      | nil =>
        rw [hk] at k0
        have : upk pa v F = 0 := by have := k0.1; omega
        rw [this]
      | cons x ls => rw [hk] at dl; simp at dl
  · -- the passing i
    have e1 : v - i = v - (i + 1) + 1 := by omega
    obtain ⟨hu, kk⟩ := KY_drop L hF kF (v - (i + 1)) (by omega)
    obtain ⟨hu2, kk2⟩ := KY_drop L hF kF (v - i) (by omega)
    have dl : (ks.drop (v - (i + 1))).length = i + 2 := by rw [List.length_drop]; omega
    have dl2 : (ks.drop (v - i)).length = i + 1 := by rw [List.length_drop]; omega
    have dd : ks.drop (v - i) = (ks.drop (v - (i + 1))).tail := by rw [List.tail_drop, e1]
    have up : upk pa (v - i) F = pa (upk pa (v - (i + 1)) F) := by rw [e1]; exact upk_s pa _ F
    cases hk : ks.drop (v - (i + 1)) with
    | nil => rw [hk] at dl; simp at dl
    | cons u ls =>
      cases hls : ls with
      | nil => rw [hk, hls] at dl; simp at dl
      | cons x ls' =>
        rw [hk] at kk dd
        have dd' : ks.drop (v - i) = ls := dd
        rw [hls] at kk
        have py := L.2.2.1 _ kk.1 hu.2
        dsimp only
        rw [up]
        refine ⟨py.2, ?_, fun p' d' q' g' hl' hD' => ?_⟩
        · right
          have r := row_RK (G := G) L hF kF gF (v - (i + 1)) (by omega)
          refine ⟨by omega, by rw [show ((v : Int) - (i : Int) - 1).toNat = v - (i + 1) by omega]; exact r, fun j rj => ?_⟩
          have lw := KY_LW L _ _ hu.1 hu.2 (show KY pa la 1 (u :: x :: ls') (upk pa (v - (i + 1)) F) from kk)
          obtain ⟨a, r0, ea, hr, rk⟩ := LW_RK _ _ j lw rj
          have r00 : r0 = 0 := by omega
          subst r00
          have al : a.length = i + 1 := by
            have := congrArg List.length ea
            rw [List.length_append] at this
            have l2 : (u :: x :: ls').length = i + 2 := by rw [← dl, hk, hls]
            rw [l2] at this
            simp at this
            omega
          have := dm _ rk
          omega
        · have rg' : RK (Edg S t m (-1)) G (v - (i + 1)) g' := by
            rcases hD' with ⟨z, _⟩ | ⟨_, z, _⟩
            · omega
            · rw [show ((v : Int) - (i : Int) - 1).toNat = v - (i + 1) by omega] at z; exact z
          have lwp := KY_LW L _ _ hu2.1 hu2.2 kk2
          rw [dd', hls, up] at lwp
          obtain ⟨bs, e, lw, ge, bl⟩ := RK_LW (R := 1) (st := st) (v - (i + 1)) g' (lab p' d' q' :: x :: ls') rg' ⟨_, p', d', q', lwp, hl', rfl⟩
          have kse : ks = ks.take (v - (i + 1)) ++ u :: x :: ls' := by
            have := List.take_append_drop (v - (i + 1)) ks
            rw [hk, hls] at this
            exact this.symm
          have tl : (ks.take (v - (i + 1))).length = v - (i + 1) := by rw [List.length_take]; omega
          have fst := (LW_first L hF P nG kF lw ge).2 rfl (by
            rw [List.length_append, bl, kv]
            have l2 : (u :: x :: ls').length = i + 2 := by rw [← dl, hk, hls]
            have : (lab p' d' q' :: x :: ls').length = i + 2 := by simpa using l2
            omega)
          rw [kse] at fst
          have := RLT_part _ _ _ _ _ (by rw [tl, bl]) fst
          rw [kk.2.1] at this
          exact this
