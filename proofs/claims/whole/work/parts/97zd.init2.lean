/-! THE INVARIANT AT THE START. -/
theorem bt_z (d : Int) : ¬ bt 0 d := by
  intro z
  have z : (0 : Nat).testBit d.toNat = true := z
  rw [Nat.zero_testBit] at z
  cases z
theorem z_266 : ∀ k, k < 123 → k19.2.2.2.1 266 k = some 0 := by decide +kernel
theorem z_54 : ∀ k, k < 8 → k19.2.2.2.1 54 k = some 0 := by decide +kernel
theorem z_60 : ∀ k, k < 64 → k19.2.2.2.1 60 k = some (-1) := by decide +kernel
theorem z_61 : ∀ k, k < 2 → k19.2.2.2.1 61 k = some 0 := by decide +kernel
theorem z_62 : ∀ k, k < 16 → k19.2.2.2.1 62 k = some 0 := by decide +kernel
theorem z_67 : ∀ k, k < 4 → k19.2.2.2.1 67 k = some 0 := by decide +kernel
theorem z_68 : ∀ k, k < 4 → k19.2.2.2.1 68 k = some 0 := by decide +kernel
theorem z_280 : ∀ k, k < 4 → k19.2.2.2.1 280 k = some 0 := by decide +kernel
theorem z_248 : ∀ k, k < 1 → k19.2.2.2.1 248 k = some 0 := by decide +kernel
theorem z_48 : ∀ k, k < 1 → k19.2.2.2.1 48 k = some 17 := by decide +kernel
theorem z_49 : ∀ k, k < 1 → k19.2.2.2.1 49 k = some 1 := by decide +kernel
theorem z_50 : ∀ k, k < 1 → k19.2.2.2.1 50 k = some 1 := by decide +kernel
theorem z_im : ∀ x, x < 4 → k19.2.2.2.1 (74 + 10 * x) 5 = some 0 := by decide +kernel
theorem i_S {h : AH} (H : HG h k19) : ∀ k : Int, 0 ≤ k → k < 123 → aI h 266 k = 0 := q_a H z_266 (by decide) (by decide)
theorem i_pl {h : AH} (H : HG h k19) : PlanRep h 53 (aI h 266) := by
  have S := i_S H
  have S0 := S 0 (by decide) (by decide)
  have S1 := S 1 (by decide) (by decide)
  have S2 := S 2 (by decide) (by decide)
  have f0 : fI h 53 0 = 0 := q_f H (by decide +kernel) (by decide)
  have f1 : fI h 53 1 = 0 := q_f H (by decide +kernel) (by decide)
  have f2 : fI h 53 2 = 0 := q_f H (by decide +kernel) (by decide)
  have f3 : fI h 53 3 = 0 := q_f H (by decide +kernel) (by decide)
  have f5 : fI h 53 5 = -1 := q_f H (by decide +kernel) (by decide)
  refine ⟨⟨by rw [f0, S0], by rw [f1, S1], by rw [f2, S2], fun m m0 => ⟨fun z => ?_, fun z => ?_⟩⟩, ⟨by rw [f3]; decide, by rw [f3]; decide, fun d d0 d1 => by omega⟩, fun r r0 r1 => ?_, fun d d0 d1 => by omega, fun p p0 p1 => by omega, fun x y x0 x1 y0 y1 => ?_, fun r r0 r1 => ?_, fun r x r0 r1 x0 x1 => ?_, fun r x y r0 r1 x0 x1 y0 y1 => by omega⟩
  · have := z.1; omega
  · have := z.1; omega
  · rw [S _ (by omega) (by omega)]
    exact q_a H z_54 (by decide) (by decide) r r0 (by omega)
  · have e : aI h (53 + 7) (x * 8 + y) = -1 := q_a H z_60 (by decide) (by decide) _ (by omega) (by omega)
    rw [e]
    refine (lst_no (fun u u0 z => ?_)).symm
    have := z.1
    omega
  · have e : aI h (53 + 8) r = 0 := q_a H z_61 (by decide) (by decide) _ (by omega) (by omega)
    rw [e]
    refine ⟨by decide, fun d d0 d1 => ⟨fun z => absurd z (bt_z d), fun z => ?_⟩⟩
    have := z.1
    omega
  · have e : aI h (53 + 9) (r * 8 + x) = 0 := q_a H z_62 (by decide) (by decide) _ (by omega) (by omega)
    rw [e]
    refine ⟨by decide, fun d d0 d1 => ⟨fun z => absurd z (bt_z d), fun z => ?_⟩⟩
    have := z.1
    omega
theorem i_wo {h : AH} (H : HG h k19) : WorldRep h 64 (aI h 266) := by
  have S := i_S H
  have S2 := S 2 (by decide) (by decide)
  refine ⟨fun p p0 p1 => by omega, fun p p0 p1 => ⟨q_a H z_67 (by decide) (by decide) p (by omega) (by omega), q_a H z_68 (by decide) (by decide) p (by omega) (by omega)⟩, ?_⟩
  rw [S 3 (by decide) (by decide)]
  exact q_f H (by decide +kernel) (by decide)
theorem i_wf {h : AH} (H : HG h k19) : WF 0 (aI h 266) := by
  have S := i_S H
  have S0 := S 0 (by decide) (by decide)
  have S1 := S 1 (by decide) (by decide)
  have S2 := S 2 (by decide) (by decide)
  have S3 := S 3 (by decide) (by decide)
  have S4 := S 4 (by decide) (by decide)
  have S5 := S 5 (by decide) (by decide)
  have S6 := S 114 (by decide) (by decide)
  refine ⟨by unfold WFb; omega, fun p p0 p1 => by omega, fun r r0 r1 => ?_, fun d d0 d1 => by omega, fun d e d0 d1 => by omega, ⟨by omega, by omega, fun k k0 k1 => by omega⟩, fun p p0 p1 => by omega⟩
  rw [S _ (by omega) (by omega)]
  omega
theorem i_cSc {h : AH} (H : HG h k19) : cSc h 0 0 53 := by
  have S6 := i_S H 114 (by decide) (by decide)
  have a1 : fI h 52 2 = -1 := q_f H (by decide +kernel) (by decide)
  have a2 : fI h 256 21 = -1 := q_f H (by decide +kernel) (by decide)
  have a3 : fI h 52 3 = 0 := q_f H (by decide +kernel) (by decide)
  have a4 : fI h 256 22 = 0 := q_f H (by decide +kernel) (by decide)
  have a5 : fI h 52 4 = 0 := q_f H (by decide +kernel) (by decide)
  exact ⟨⟨Or.inr (Or.inl rfl), i_pl H, i_wo H, by omega, fun k k0 k1 => by omega⟩, i_wf H, by omega, by omega⟩
theorem i_cRl {h : AH} (H : HG h k19) : cRl h 0 (fun _ => R1) := by
  have a1 : fI h 0 13 = 0 := q_f H (by decide +kernel) (by decide)
  have a2 : fI h 256 2 = 0 := q_f H (by decide +kernel) (by decide)
  have a3 : fI h 47 5 = 1 := q_f H (by decide +kernel) (by decide)
  refine ⟨⟨a1, by decide, ⟨a3, fun c c0 c1 => ?_⟩, fun k k0 k1 => by omega⟩, a2, fun g g0 g1 => Or.inl g1⟩
  have c1 : c < 1 := c1
  have e : c = 0 := by omega
  subst e
  refine ⟨q_a H z_49 (by decide) (by decide) 0 (by decide) (by decide), q_a H z_50 (by decide) (by decide) 0 (by decide) (by decide), fun j j0 j1 => ?_⟩
  have j0 : (0 : Int) ≤ j := j0
  have j1 : j < 1 := j1
  have e : j = 0 := by omega
  subst e
  exact q_a H z_48 (by decide) (by decide) 0 (by decide) (by decide)
theorem i_cPa {h : AH} (H : HG h k19) : cPa h 0 := by
  have a1 : fI h 256 27 = 0 := q_f H (by decide +kernel) (by decide)
  have a2 : fI h 0 14 = 0 := q_f H (by decide +kernel) (by decide)
  have a3 : fI h 0 15 = 0 := q_f H (by decide +kernel) (by decide)
  refine ⟨fun _ _ => 0, ⟨by omega, by omega, by omega, fun j j0 j1 => by omega⟩, fun j j0 j1 => by omega⟩
theorem i_280 {h : AH} (H : HG h k19) : ∀ x : Int, 0 ≤ x → x < 4 → aI h 280 x = 0 := q_a H z_280 (by decide) (by decide)
theorem i_cIm {h : AH} (H : HG h k19) : cIm h 0 0 (fun _ => 0) := by
  intro x x0 x1
  have e := i_280 H x x0 (by omega)
  refine ⟨?_, fun z => absurd e z⟩
  rw [e]
  exact q_f H (z_im x.toNat (by omega)) (by decide)
theorem i_cSe {h : AH} (H : HG h k19) : cSe h 248 249 1 := by
  have a1 : fI h 247 6 = 0 := q_f H (by decide +kernel) (by decide)
  refine ⟨by omega, fun k k0 k1 => by omega, fun x x0 x1 z => absurd (q_a H z_248 (by decide) (by decide) x x0 x1) z⟩
theorem i_cTp {h : AH} (H : HG h k19) : cTp h := by
  have a1 : fI h 256 1 = 0 := q_f H (by decide +kernel) (by decide)
  have a2 : fI h 1 1 = 0 := q_f H (by decide +kernel) (by decide)
  have e1 := zr_a H z2_19
  have e2 := zr_a H z257_19
  refine ⟨by rw [e1, e2], fun i _ _ => ?_, by omega, by omega, by omega⟩
  rw [e1]
  show (-128 : Int) ≤ 0 ∧ (0 : Int) < 128
  decide
theorem i_at {h : AH} (H : HG h k19) (a : Nat) (e : (k19.2.1 a = (0, 2) ∧ k19.2.1 (a + 1) = (1, 8) ∧ k19.2.1 (a + 2) = (1, 14) ∧ k19.2.1 (a + 3) = (1, 14) ∧ k19.2.1 (a + 4) = (1, 4) ∧ k19.2.1 (a + 5) = (1, 4) ∧ k19.2.1 (a + 6) = (1, 4) ∧ k19.2.1 (a + 7) = (1, 64) ∧ k19.2.1 (a + 8) = (1, 2) ∧ k19.2.1 (a + 9) = (1, 16) ∧ k19.2.1 (a + 10) = (1, 128) ∧ k19.2.2.1 a 6 = some (a + 1) ∧ k19.2.2.1 a 7 = some (a + 2) ∧ k19.2.2.1 a 8 = some (a + 3) ∧ k19.2.2.1 a 9 = some (a + 4) ∧ k19.2.2.1 a 10 = some (a + 5) ∧ k19.2.2.1 a 11 = some (a + 6) ∧ k19.2.2.1 a 12 = some (a + 7) ∧ k19.2.2.1 a 13 = some (a + 8) ∧ k19.2.2.1 a 14 = some (a + 9) ∧ k19.2.2.1 a 15 = some (a + 10))) : PlanAt h a := by
  unfold PlanAt
  rw [H.2.1, H.2.2.1]
  exact e
theorem i_LK {h : AH} (H : HG h k19) : LK h 53 4 (fun _ => 0) (aI h 280) 53 248 249 1 53 251 252 253 1 := by
  have n : hn h = 281 := H.n' q_n
  refine ⟨⟨q_lay H, by omega⟩, ⟨H.r' (by decide +kernel), ⟨i_at H 53 (by decide +kernel), by omega, by omega, by unfold apS; omega, by unfold apP; omega⟩, by omega⟩, ⟨H.r' (by decide +kernel), ⟨i_at H 4 (by decide +kernel), by omega, by omega, by unfold apS; omega, by unfold apP; omega⟩, by omega⟩, fun x x0 x1 z => absurd (i_280 H x x0 (by omega)) z, ⟨⟨H.r' (by decide +kernel), H.r' (by decide +kernel), H.r' (by decide +kernel), H.s' (by decide +kernel), H.s' (by decide +kernel), by decide⟩, by omega, ⟨0, by decide, by decide⟩⟩, ⟨⟨H.r' (by decide +kernel), H.r' (by decide +kernel), H.r' (by decide +kernel), H.r' (by decide +kernel), H.s' (by decide +kernel), H.s' (by decide +kernel), H.s' (by decide +kernel), by decide⟩, by omega, ⟨0, by decide, by decide⟩⟩, by unfold Djn; omega⟩
theorem i_Inv {h : AH} (H : HG h k19) : Inv h 0 := by
  have n : hn h = 281 := H.n' q_n
  have z : hz h ≤ 1000000 := by rw [H.2.2.2.2.2]; exact q_z
  exact ⟨53, 4, fun _ => 0, 53, 248, 249, 1, 53, 251, 252, 253, 1, 0, fun _ => R1, i_LK H, i_cTp H, i_cRl H, i_cSc H, i_cPa H, i_cIm H, i_cSe H, by unfold Room; omega⟩
