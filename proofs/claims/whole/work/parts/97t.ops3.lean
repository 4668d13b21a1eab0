/-! THE LAW, CALL BY CALL: what is fed, forced, sown, noted, done and undone. -/
theorem byv_b (v s : Int) : -128 ≤ byv v s ∧ byv v s < 128 := by
  have key : ∀ x : Int32, -128 ≤ (vp_nar .byte x).toInt ∧ (vp_nar .byte x).toInt < 128 := fun x => by
    have e : vp_nar .byte x = (Int32.toInt8 x).toInt32 := rfl
    rw [e, Int8.toInt_toInt32]
    exact ⟨Int8.le_toInt _, Int8.toInt_lt _⟩
  exact key _
theorem BT.uu {A : Int → Int} {l v : Int} (B : BT A) (hl : 0 ≤ l ∧ l < 400) (hv : -128 ≤ v ∧ v < 128) : BT (uu_ A l v) := fun i i0 i1 => by
  by_cases q : i = l
  · rw [q, uu_eq]; exact hv
  · rw [uu_ne (by omega) (by omega) q]; exact B i i0 i1
theorem BT.put {A : Int → Int} {l v : Int} (B : BT A) (hl : 0 ≤ l ∧ l + 4 ≤ 400) : BT (put4 A l v) := (((B.uu (by omega) (byv_b v 24)).uu (by omega) (byv_b v 16)).uu (by omega) (byv_b v 8)).uu (by omega) (byv_b v 0)
theorem BT.put20 {A : Int → Int} {l a b c d e : Int} (B : BT A) (hl : 0 ≤ l ∧ l + 20 ≤ 400) : BT (put20 A l a b c d e) := ((((B.put (by omega)).put (by omega)).put (by omega)).put (by omega)).put (by omega)
theorem cIm.up {h : AH} {N M n : Int} {iq : Int → Nat} (A : cIm h N n iq) (l : N ≤ M) : cIm h M n iq := fun x x0 x1 => ⟨(A x x0 x1).1, fun kk => ⟨((A x x0 x1).2 kk).1, ((A x x0 x1).2 kk).2.1.up l, ((A x x0 x1).2 kk).2.2⟩⟩
theorem cPa.up {h : AH} {N M : Int} (A : cPa h N) (l : N ≤ M) : cPa h M := by
  obtain ⟨V, v1, v2⟩ := A
  exact ⟨V, v1, fun j j0 j1 => ⟨(v2 j j0 j1).1, (v2 j j0 j1).2.up l⟩⟩
theorem cSc.up {h : AH} {N M n : Int} {pl : Nat} (A : cSc h N n pl) (l : N ≤ M) : cSc h M n pl := ⟨A.1, A.2.1.up l, A.2.2⟩
theorem Room.up {h : AH} {N M : Int} {ln lp : Nat} (A : Room h N ln lp) (l : N ≤ M) : Room h M ln lp := by unfold Room at *; omega
/-- a frame of small cells only -/
def SmC (c : Nat) : Prop := c < 281 ∧ (c < 4 ∨ 14 < c) ∧ (c < 53 ∨ 63 < c) ∧ ¬ c = 248 ∧ ¬ c = 249 ∧ ¬ c = 247
theorem LK.im {h : AH} {pl rp : Nat} {iq : Int → Nat} {kp : Int → Int} {pl0 mk qu ln pq0 co ne be lp : Nat} (A : LK h pl rp iq kp pl0 mk qu ln pq0 co ne be lp) {c k : Nat} (hc : SmC c) : (c < pl ∨ pl + 10 < c) ∧ (∀ x : Int, 0 ≤ x → x ≤ 3 → ¬ kp x = 0 → c < iq x ∨ iq x + 10 < c) ∧ (¬ c = mk ∧ ¬ c = qu ∧ ¬ (c = 247 ∧ k = 6)) := by
  have a := A.np hc.1 hc.2.1 hc.2.2.1
  obtain ⟨m1, m2, -⟩ := A.ms
  unfold SmC at hc
  exact ⟨a.1, a.2.2, by omega, by omega, by omega⟩
/-- what keeps all but a few contents -/
theorem Inv.mk {h h' : AH} {N : Int} {pl rp : Nat} {iq : Int → Nat} {pl0 mk qu ln pq0 co ne be lp : Nat} {n : Int} {Rs : Int → Ru} {T : Nat → Nat → Prop} (F : Fr T h h') (sm : ∀ c k, T c k → SmC c) (n280 : ∀ k, ¬ T 280 k)
    (a1 : LK h pl rp iq (aI h 280) pl0 mk qu ln pq0 co ne be lp) (a7 : cSe h mk qu ln) (a8 : Room h N ln lp) (a2 : cTp h') (a3 : cRl h' n Rs) (a4 : cSc h' (N + 1) n pl) (a5 : cPa h' (N + 1)) (a6 : cIm h' (N + 1) n iq) : Inv h' (N + 1) := by
  have e280 : aI h' 280 = aI h 280 := F.a 280 n280
  exact ⟨pl, rp, iq, pl0, mk, qu, ln, pq0, co, ne, be, lp, n, Rs, by rw [e280]; exact a1.sh F.1, a2, a3, a4, a5, a6, a7.fr F (fun c k z => (a1.im (k := k) (sm c k z)).2.2), (a8.sh F.1).up (by omega)⟩
theorem PsW.st {N : Int} {R S S' : Int → Int} (A : PsW N R S) (s : Stat S S') : PsW N R S' := by
  obtain ⟨a1, a2, a3, a4, a5⟩ := A
  obtain ⟨s1, s2, s3, -, -, s6⟩ := s
  have e0 := s1 0 (by omega) (by omega)
  have e2 := s1 2 (by omega) (by omega)
  refine ⟨fun k k0 k1 => by rw [s1 k k0 k1]; exact a1 k k0 k1, by rw [s2]; exact a2, by rw [s3]; exact a3, a4, fun p p0 p1 => ?_⟩
  rw [e2] at p1
  have a := a5 p p0 p1
  rw [s6 p p0 p1, e0]
  exact a
theorem PsW.self {N : Int} {S : Int → Int} (W : WF N S) : PsW N S S := by
  have b := W.1
  unfold WFb at b
  refine ⟨fun _ _ _ => rfl, rfl, rfl, by omega, fun p p0 p1 => ⟨rfl, ?_⟩⟩
  have := W.2.1 p p0 p1
  omega
/-- an act was kept -/
theorem pa_push {h h2 : AH} {N M u : Int} {V : Int → Int → Int} {S S' : Int → Int} (A : CP h2 (pshU u) (pshV u V S)) (hu : 0 ≤ u ∧ u ≤ 20) (Pu : Push u (aI h 270) (aI h2 270) S (fI h2 256 27)) (B : ∀ j : Int, 0 ≤ j → j < u → (∀ k : Int, 0 ≤ k → k < 34 → V j k = aI h 270 (34 * j + k)) ∧ PsW N (V j) S) (W : WF N S) (s : Stat S S') (e : aI h2 266 = S') (l : N ≤ M) : cPa h2 M := by
  obtain ⟨p1, p2, p3⟩ := Pu
  have eu : fI h2 256 27 = pshU u := p1
  refine ⟨pshV u V S, by rw [eu]; exact A, fun j j0 j1 => ?_⟩
  rw [e]
  unfold pshV
  by_cases q : j = (if u = 20 then 19 else u)
  · rw [if_pos q]
    refine ⟨fun k k0 k1 => ?_, (PsW.st (PsW.self W) s).up l⟩
    have := p3 k k0 k1
    rw [← this]
    congr 2
    rw [p1, q]
    split <;> omega
  · rw [if_neg q]
    have jj : j < fI h2 256 27 - 1 := by
      rw [p1] at j1 ⊢
      revert q j1
      split
      · intro q j1; omega
      · intro q j1; omega
    have b := B (j + (if u = 20 then 1 else 0)) (by split <;> omega) (by rw [p1] at jj; revert jj; split <;> intro jj <;> omega)
    exact ⟨fun k k0 k1 => by rw [p2 j k j0 jj k0 k1]; exact b.1 k k0 k1, (b.2.st s).up l⟩
/-- the scene shows another said of the same castle -/
theorem CS.to {h h' : AH} {pl : Nat} {N : Int} {S S' : Int → Int} {T : Nat → Nat → Prop} (R : CS h pl S) (W : WF N S) (F : Fr T h h') (np : ∀ c k, T c k → c < pl ∨ pl + 10 < c) (n7 : ∀ c k, T c k → (c < 70 ∨ 72 < c) ∧ ¬ (c = 52 ∧ k = 4)) (s : Stat S S') (nt : ∀ k : Int, 84 ≤ k → k < 115 → S' k = S k) (w : WorldRep h' 64 S') : CS h' pl S' := by
  have wn := W.2.2.2.2.2.1
  unfold WFn at wn
  refine ⟨R.1, (R.2.1.stat W s).fr F np, w, by rw [F.f 52 4 (fun z => (n7 _ _ z).2 ⟨rfl, rfl⟩), nt 114 (by omega) (by omega)]; exact R.2.2.2.1, fun k k0 k1 => ?_⟩
  rw [nt 114 (by omega) (by omega)] at k1
  rw [F.a 70 (fun k z => by have := (n7 _ _ z).1; omega), F.a 71 (fun k z => by have := (n7 _ _ z).1; omega), F.a 72 (fun k z => by have := (n7 _ _ z).1; omega), nt _ (by omega) (by omega), nt _ (by omega) (by omega), nt _ (by omega) (by omega)]
  exact R.2.2.2.2 k k0 k1
