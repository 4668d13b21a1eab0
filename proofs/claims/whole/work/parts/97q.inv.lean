/-! THE LAW'S INVARIANT. Links (shapes, references) and contents apart. -/
def PlA (h : AH) (q mk qu co ne be : Nat) : Prop := PlanAt h q ∧ q + 10 < hn h ∧ (q = 4 ∨ q = 53 ∨ 281 ≤ q) ∧ apS q mk qu ∧ apP q co ne be
def Djn (mk qu co ne be : Nat) : Prop := ¬ mk = co ∧ ¬ mk = ne ∧ ¬ mk = be ∧ ¬ qu = co ∧ ¬ qu = ne ∧ ¬ qu = be
def P8 (ln : Nat) : Prop := ∃ j : Nat, j ≤ 5 ∧ ln = 8 ^ j
def LK (h : AH) (pl rp : Nat) (iq : Int → Nat) (kp : Int → Int) (pl0 mk qu ln pq0 co ne be lp : Nat) : Prop :=
  (Lay h ∧ 281 ≤ hn h) ∧ (hR h 52 0 = some pl ∧ PlA h pl mk qu co ne be ∧ (pl + 10 < rp ∨ rp + 10 < pl)) ∧ (hR h 3 1 = some rp ∧ PlA h rp mk qu co ne be ∧ ¬ rp = 53) ∧
  (∀ x : Int, 0 ≤ x → x ≤ 3 → ¬ kp x = 0 → hR h (74 + 10 * x.toNat) 0 = some (iq x) ∧ PlA h (iq x) mk qu co ne be ∧ (iq x + 10 < rp ∨ rp + 10 < iq x)) ∧
  (SeaAt h pl0 mk qu ln ∧ (mk < hn h ∧ qu < hn h) ∧ P8 ln) ∧ (PriAt h pq0 co ne be lp ∧ (co < hn h ∧ ne < hn h ∧ be < hn h) ∧ P8 lp) ∧ Djn mk qu co ne be
theorem PlA.sh {h h' : AH} {q mk qu co ne be : Nat} (s : SH h h') (A : PlA h q mk qu co ne be) : PlA h' q mk qu co ne be := ⟨PlanAt_SH s A.1, by rw [s.hn]; exact A.2.1, A.2.2⟩
theorem LK.sh {h h' : AH} {pl rp : Nat} {iq : Int → Nat} {kp : Int → Int} {pl0 mk qu ln pq0 co ne be lp : Nat} (s : SH h h') (A : LK h pl rp iq kp pl0 mk qu ln pq0 co ne be lp) : LK h' pl rp iq kp pl0 mk qu ln pq0 co ne be lp := by
  obtain ⟨a1, a2, a3, a4, a5, a6, a7⟩ := A
  refine ⟨⟨Lay_SH s a1.1, by rw [s.hn]; exact a1.2⟩, ⟨by rw [s.2]; exact a2.1, a2.2.1.sh s, a2.2.2⟩, ⟨by rw [s.2]; exact a3.1, a3.2.1.sh s, a3.2.2⟩, fun x x0 x1 k => ⟨by rw [s.2]; exact (a4 x x0 x1 k).1, (a4 x x0 x1 k).2.1.sh s, (a4 x x0 x1 k).2.2⟩, ⟨?_, by rw [s.hn]; exact a5.2.1, a5.2.2⟩, ⟨?_, by rw [s.hn]; exact a6.2.1, a6.2.2⟩, a7⟩
  · unfold SeaAt; rw [s.2, s.hs]; exact a5.1
  · unfold PriAt; rw [s.2, s.hs]; exact a6.1
-- contents
def cTp (h : AH) : Prop := aI h 257 = aI h 2 ∧ BT (aI h 2) ∧ fI h 256 1 = fI h 1 1 ∧ 0 ≤ fI h 1 1 ∧ fI h 1 1 ≤ 400
def cRl (h : AH) (n : Int) (Rs : Int → Ru) : Prop := CU h n Rs ∧ fI h 256 2 = n ∧ ∀ g : Int, -1 ≤ g → g < n → RefOK h g Rs
def cSc (h : AH) (N n : Int) (pl : Nat) : Prop := CS h pl (aI h 266) ∧ WF N (aI h 266) ∧ (fI h 52 2 = fI h 256 21 ∧ -1 ≤ fI h 256 21 ∧ fI h 256 21 < n) ∧ (fI h 52 3 = fI h 256 22 ∧ 0 ≤ fI h 256 22)
def PsW (N : Int) (R S : Int → Int) : Prop := (∀ k : Int, 0 ≤ k → k < 3 → R k = S k) ∧ R 4 = S 4 ∧ R 5 = S 5 ∧ (0 ≤ R 3 ∧ R 3 ≤ N) ∧ ∀ p : Int, 0 ≤ p → p < S 2 → pS R p 2 = pS S p 2 ∧ (0 ≤ pS R p 0 ∧ pS R p 0 < S 0 ∧ 0 ≤ pS R p 1 ∧ pS R p 1 < S 0 ∧ 0 ≤ pS R p 3 ∧ pS R p 3 ≤ N ∧ 0 ≤ pS R p 4 ∧ pS R p 4 ≤ N ∧ -1 ≤ pS R p 5 ∧ pS R p 5 < 4)
def cPa (h : AH) (N : Int) : Prop := ∃ V : Int → Int → Int, CP h (fI h 256 27) V ∧ ∀ j : Int, 0 ≤ j → j < fI h 256 27 → (∀ k : Int, 0 ≤ k → k < 34 → V j k = aI h 270 (34 * j + k)) ∧ PsW N (V j) (aI h 266)
def imR (h : AH) (x : Int) : Int → Int := fun k => aI h 277 (123 * x + k)
def cIm (h : AH) (N n : Int) (iq : Int → Nat) : Prop := ∀ x : Int, 0 ≤ x → x ≤ 3 → fI h (74 + 10 * x.toNat) 5 = aI h 280 x ∧ (¬ aI h 280 x = 0 → ScR h (74 + 10 * x.toNat) (75 + 10 * x.toNat) (81 + 10 * x.toNat) (iq x) (imR h x) ∧ WF N (imR h x) ∧ (fI h (74 + 10 * x.toNat) 2 = aI h 278 x ∧ -1 ≤ aI h 278 x ∧ aI h 278 x < n) ∧ (fI h (74 + 10 * x.toNat) 3 = aI h 279 x ∧ 0 ≤ aI h 279 x))
def cSe (h : AH) (mk qu ln : Nat) : Prop := (0 ≤ fI h 247 6 ∧ fI h 247 6 ≤ ln) ∧ (∀ k : Int, 0 ≤ k → k < fI h 247 6 → 0 ≤ aI h qu k ∧ aI h qu k < ln) ∧ (∀ x : Int, 0 ≤ x → x < ln → ¬ aI h mk x = 0 → ∃ k : Int, (0 ≤ k ∧ k < fI h 247 6) ∧ aI h qu k = x)
section
variable {T : Nat → Nat → Prop} {h h' : AH} {N n : Int}
theorem cTp.fr (A : cTp h) (F : Fr T h h') (t : ∀ c k, T c k → ¬ c = 2 ∧ ¬ c = 257 ∧ ¬ (c = 1 ∧ k = 1) ∧ ¬ (c = 256 ∧ k = 1)) : cTp h' := by
  unfold cTp
  rw [F.a 257 (fun k z => (t _ _ z).2.1 rfl), F.a 2 (fun k z => (t _ _ z).1 rfl), F.f 256 1 (fun z => (t _ _ z).2.2.2 ⟨rfl, rfl⟩), F.f 1 1 (fun z => (t _ _ z).2.2.1 ⟨rfl, rfl⟩)]
  exact A
theorem cRl.fr {Rs : Int → Ru} (A : cRl h n Rs) (F : Fr T h h') (t : ∀ c k, T c k → ¬ (c = 0 ∧ k = 13) ∧ (16 ≤ c → c ≤ 51 → c = 20 ∨ c = 25 ∨ c = 30 ∨ c = 35 ∨ c = 40 ∨ c = 45 ∨ c = 51 ∨ c = 46) ∧ ¬ c = 258 ∧ ¬ c = 260 ∧ ¬ c = 261 ∧ ¬ (c = 256 ∧ k = 2)) : cRl h' n Rs :=
  ⟨A.1.fr F (fun z => (t _ _ z).1 ⟨rfl, rfl⟩) (fun c k z => (t c k z).2.1), by rw [F.f 256 2 (fun z => (t _ _ z).2.2.2.2.2 ⟨rfl, rfl⟩)]; exact A.2.1, fun g g0 g1 => (A.2.2 g g0 g1).fr F (fun c k z => ⟨(t c k z).2.2.1, (t c k z).2.2.2.1, (t c k z).2.2.2.2.1⟩)⟩
theorem cSc.fr {pl : Nat} (A : cSc h N n pl) (F : Fr T h h') (t : ∀ c k, T c k → (c < 52 ∨ 72 < c) ∧ (c < pl ∨ pl + 10 < c) ∧ ¬ c = 266 ∧ ¬ (c = 256 ∧ (k = 21 ∨ k = 22))) : cSc h' N n pl := by
  have e : aI h' 266 = aI h 266 := F.a 266 (fun k z => (t _ _ z).2.2.1 rfl)
  unfold cSc
  rw [e, F.f 52 2 (fun z => by have := t _ _ z; omega), F.f 52 3 (fun z => by have := t _ _ z; omega), F.f 256 21 (fun z => by have := t _ _ z; omega), F.f 256 22 (fun z => by have := t _ _ z; omega)]
  exact ⟨A.1.fr2 F (fun c k z => ⟨(t c k z).1, (t c k z).2.1⟩), A.2⟩
theorem cPa.fr (A : cPa h N) (F : Fr T h h') (t : ∀ c k, T c k → (c < 121 ∨ 240 < c) ∧ ¬ (c = 0 ∧ (k = 14 ∨ k = 15)) ∧ ¬ c = 270 ∧ ¬ c = 266 ∧ ¬ (c = 256 ∧ k = 27)) : cPa h' N := by
  obtain ⟨V, a, b⟩ := A
  unfold cPa
  rw [F.f 256 27 (fun z => (t _ _ z).2.2.2.2 ⟨rfl, rfl⟩), F.a 270 (fun k z => (t _ _ z).2.2.1 rfl), F.a 266 (fun k z => (t _ _ z).2.2.2.1 rfl)]
  exact ⟨V, a.fr F (fun c k z => ⟨(t c k z).1, (t c k z).2.1⟩), b⟩
theorem ScR.fr {o w m pl : Nat} {S : Int → Int} (A : ScR h o w m pl S) (F : Fr T h h') (t : ∀ c k, T c k → (c < pl ∨ pl + 10 < c) ∧ (c < w ∨ w + 5 < c) ∧ (c < m ∨ m + 2 < c) ∧ ¬ c = o) : ScR h' o w m pl S := by
  obtain ⟨a1, a2, a3, a4, a5⟩ := A
  refine ⟨a1, a2.fr F (fun c k z => (t c k z).1), a3.fr F (fun c k z => (t c k z).2.1), by rw [F.f o 4 (fun z => (t _ _ z).2.2.2 rfl)]; exact a4, fun k k0 k1 => ?_⟩
  rw [F.a m (fun k z => by have := t _ _ z; omega), F.a (m + 1) (fun k z => by have := t _ _ z; omega), F.a (m + 2) (fun k z => by have := t _ _ z; omega)]
  exact a5 k k0 k1
theorem cIm.fr {iq : Int → Nat} (A : cIm h N n iq) (F : Fr T h h') (t : ∀ c k, T c k → (c < 74 ∨ 113 < c) ∧ (c < 277 ∨ 280 < c) ∧ ∀ x : Int, 0 ≤ x → x ≤ 3 → ¬ aI h 280 x = 0 → c < iq x ∨ iq x + 10 < c) : cIm h' N n iq := by
  intro x x0 x1
  have e277 : aI h' 277 = aI h 277 := F.a 277 (fun k z => by have := t _ _ z; omega)
  have e278 : aI h' 278 = aI h 278 := F.a 278 (fun k z => by have := t _ _ z; omega)
  have e279 : aI h' 279 = aI h 279 := F.a 279 (fun k z => by have := t _ _ z; omega)
  have e280 : aI h' 280 = aI h 280 := F.a 280 (fun k z => by have := t _ _ z; omega)
  have ei : imR h' x = imR h x := by unfold imR; rw [e277]
  have f : ∀ k, fI h' (74 + 10 * x.toNat) k = fI h (74 + 10 * x.toNat) k := fun k => F.f _ k (fun z => by have := t _ _ z; omega)
  have a := A x x0 x1
  rw [f, f, f, ei, e278, e279, e280]
  refine ⟨a.1, fun kk => ?_⟩
  obtain ⟨b1, b2, b3, b4⟩ := a.2 kk
  exact ⟨b1.fr F (fun c k z => ⟨(t c k z).2.2 x x0 x1 kk, by have := t c k z; omega, by have := t c k z; omega, by have := t c k z; omega⟩), b2, b3, b4⟩
theorem cSe.fr {mk qu ln : Nat} (A : cSe h mk qu ln) (F : Fr T h h') (t : ∀ c k, T c k → ¬ c = mk ∧ ¬ c = qu ∧ ¬ (c = 247 ∧ k = 6)) : cSe h' mk qu ln := by
  unfold cSe
  rw [F.f 247 6 (fun z => (t _ _ z).2.2 ⟨rfl, rfl⟩), F.a mk (fun k z => (t _ _ z).1 rfl), F.a qu (fun k z => (t _ _ z).2.1 rfl)]
  exact A
end
theorem PsW.up {N M : Int} {R S : Int → Int} (A : PsW N R S) (l : N ≤ M) : PsW M R S := ⟨A.1, A.2.1, A.2.2.1, by have := A.2.2.2.1; omega, fun p p0 p1 => ⟨(A.2.2.2.2 p p0 p1).1, by have := (A.2.2.2.2 p p0 p1).2; omega⟩⟩
def Room (h : AH) (N : Int) (ln lp : Nat) : Prop := (hn h : Int) ≤ 281 + 20 * N ∧ (hz h : Int) ≤ 1000000 + 400 * N + 4 * ln + 6 * lp
/-- the invariant after at most N calls -/
def Inv (h : AH) (N : Int) : Prop := ∃ (pl rp : Nat) (iq : Int → Nat) (pl0 mk qu ln pq0 co ne be lp : Nat) (n : Int) (Rs : Int → Ru),
  LK h pl rp iq (aI h 280) pl0 mk qu ln pq0 co ne be lp ∧ cTp h ∧ cRl h n Rs ∧ cSc h N n pl ∧ cPa h N ∧ cIm h N n iq ∧ cSe h mk qu ln ∧ Room h N ln lp
/-- cells that no plan takes -/
theorem LK.np {h : AH} {pl rp : Nat} {iq : Int → Nat} {kp : Int → Int} {pl0 mk qu ln pq0 co ne be lp : Nat} (A : LK h pl rp iq kp pl0 mk qu ln pq0 co ne be lp) {c : Nat} (hc : c < 281) (h4 : c < 4 ∨ 14 < c) (h53 : c < 53 ∨ 63 < c) : (c < pl ∨ pl + 10 < c) ∧ (c < rp ∨ rp + 10 < c) ∧ ∀ x : Int, 0 ≤ x → x ≤ 3 → ¬ kp x = 0 → c < iq x ∨ iq x + 10 < c := by
  have a := A.2.1.2.1.2.2.1
  have b := A.2.2.1.2.1.2.2.1
  refine ⟨by omega, by omega, fun x x0 x1 k => ?_⟩
  have := (A.2.2.2.1 x x0 x1 k).2.1.2.2.1
  omega
theorem LK.ms {h : AH} {pl rp : Nat} {iq : Int → Nat} {kp : Int → Int} {pl0 mk qu ln pq0 co ne be lp : Nat} (A : LK h pl rp iq kp pl0 mk qu ln pq0 co ne be lp) : (mk = 248 ∨ 281 ≤ mk) ∧ (qu = 249 ∨ 281 ≤ qu) ∧ ¬ mk = qu := by
  have := A.2.1.2.1.2.2.2.1
  unfold apS at this
  exact ⟨this.1, this.2.1, this.2.2.1⟩
theorem Inv.up {h : AH} {N M : Int} (I : Inv h N) (l : N ≤ M) : Inv h M := by
  obtain ⟨pl, rp, iq, pl0, mk, qu, ln, pq0, co, ne, be, lp, n, Rs, a1, a2, a3, a4, a5, a6, a7, a8⟩ := I
  refine ⟨pl, rp, iq, pl0, mk, qu, ln, pq0, co, ne, be, lp, n, Rs, a1, a2, a3, ⟨a4.1, a4.2.1.up l, a4.2.2⟩, ?_, fun x x0 x1 => ⟨(a6 x x0 x1).1, fun k => ⟨((a6 x x0 x1).2 k).1, ((a6 x x0 x1).2 k).2.1.up l, ((a6 x x0 x1).2 k).2.2⟩⟩, a7, by unfold Room at *; omega⟩
  obtain ⟨V, b1, b2⟩ := a5
  exact ⟨V, b1, fun j j0 j1 => ⟨(b2 j j0 j1).1, (b2 j j0 j1).2.up l⟩⟩
theorem Room.sh {h h' : AH} {N : Int} {ln lp : Nat} (A : Room h N ln lp) (s : SH h h') : Room h' N ln lp := by unfold Room; rw [s.hn, s.hz]; exact A
/-- the class looks, and writes only where it reckons -/
theorem Inv.cl {h h' : AH} {N : Int} (I : Inv h N) (F : Fr TAt h h') : Inv h' N := by
  obtain ⟨pl, rp, iq, pl0, mk, qu, ln, pq0, co, ne, be, lp, n, Rs, a1, a2, a3, a4, a5, a6, a7, a8⟩ := I
  have ms := a1.ms
  have e280 : aI h' 280 = aI h 280 := F.a 280 (by unfold TAt TAh; omega)
  refine ⟨pl, rp, iq, pl0, mk, qu, ln, pq0, co, ne, be, lp, n, Rs, by rw [e280]; exact a1.sh F.1, a2.fr F (fun c k z => by unfold TAt TAh at z; omega), a3.fr F (fun c k z => by unfold TAt TAh at z; omega), a4.fr F (fun c k z => ?_), a5.fr F (fun c k z => by unfold TAt TAh at z; omega), a6.fr F (fun c k z => ?_), a7.fr F (fun c k z => by unfold TAt TAh at z; omega), a8.sh F.1⟩
  · have := a1.np (c := c) (by unfold TAt TAh at z; omega) (by unfold TAt TAh at z; omega) (by unfold TAt TAh at z; omega)
    unfold TAt TAh at z; omega
  · have := a1.np (c := c) (by unfold TAt TAh at z; omega) (by unfold TAt TAh at z; omega) (by unfold TAt TAh at z; omega)
    exact ⟨by unfold TAt TAh at z; omega, by unfold TAt TAh at z; omega, this.2.2⟩
/-- the reference looks -/
theorem Inv.rf {h h' : AH} {N : Int} (I : Inv h N) (F : Fr TRf h h') (e66 : aI h' 266 = aI h 266) (e21 : fI h' 256 21 = fI h 256 21) : Inv h' N := by
  obtain ⟨pl, rp, iq, pl0, mk, qu, ln, pq0, co, ne, be, lp, n, Rs, a1, a2, a3, a4, a5, a6, a7, a8⟩ := I
  have ms := a1.ms
  have e280 : aI h' 280 = aI h 280 := F.a 280 (by unfold TRf TRs TR; omega)
  have F2 : ∀ c k, ¬ (TR c k) → ¬ (c = 266) → ¬ (c = 256 ∧ k = 21) → ¬ TRf c k := fun c k n1 n2 n3 z => by
    unfold TRf TRs at z
    rcases z with (z | z) | z
    · exact n1 z
    · exact n2 z
    · exact n3 z
  refine ⟨pl, rp, iq, pl0, mk, qu, ln, pq0, co, ne, be, lp, n, Rs, by rw [e280]; exact a1.sh F.1, a2.fr F (fun c k z => by unfold TRf TRs TR at z; omega), a3.fr F (fun c k z => by unfold TRf TRs TR at z; omega), ?_, ?_, a6.fr F (fun c k z => ?_), a7.fr F (fun c k z => by unfold TRf TRs TR at z; omega), a8.sh F.1⟩
  · unfold cSc
    rw [e66, e21, F.f 52 2 (by unfold TRf TRs TR; omega), F.f 52 3 (by unfold TRf TRs TR; omega), F.f 256 22 (by unfold TRf TRs TR; omega)]
    refine ⟨a4.1.fr2 F (fun c k z => ?_), a4.2⟩
    have := a1.np (c := c) (by unfold TRf TRs TR at z; omega) (by unfold TRf TRs TR at z; omega) (by unfold TRf TRs TR at z; omega)
    unfold TRf TRs TR at z; omega
  · obtain ⟨V, b1, b2⟩ := a5
    unfold cPa
    rw [e66, F.f 256 27 (by unfold TRf TRs TR; omega), F.a 270 (by unfold TRf TRs TR; omega)]
    exact ⟨V, b1.fr F (fun c k z => by unfold TRf TRs TR at z; omega), b2⟩
  · have := a1.np (c := c) (by unfold TRf TRs TR at z; omega) (by unfold TRf TRs TR at z; omega) (by unfold TRf TRs TR at z; omega)
    exact ⟨by unfold TRf TRs TR at z; omega, by unfold TRf TRs TR at z; omega, this.2.2⟩
