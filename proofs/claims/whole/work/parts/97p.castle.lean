/-! THE CLASS: takePlan(), castle(). -/
def sH (h : AH) : ST := (hn h, hs h, hR h, fun c k => some (fI h c k), fun c k => some (hL h c k), hz h)
theorem HG_H (h : AH) : HG h (sH h) := ⟨rfl, rfl, rfl, fun c k v e => by cases e; exact hI_f h c k, fun c k v e => by cases e; rfl, rfl⟩
theorem sX_ro {s : ST} {a k t n z c : Nat} (h : ¬ c = a) (h' : ¬ c = s.1) : (sX s a k t n z).2.2.1 c = s.2.2.1 c := by
  show va_up (va_up s.2.2.1 s.1 (fun _ => none)) a _ c = _
  rw [va_up_ne _ _ h, va_up_ne _ _ h']
theorem sX_vo {s : ST} {a k t n z c : Nat} (h' : ¬ c = s.1) : (sX s a k t n z).2.2.2.1 c = s.2.2.2.1 c ∧ (sX s a k t n z).2.2.2.2.1 c = s.2.2.2.2.1 c := by
  constructor
  · show va_up s.2.2.2.1 s.1 (fun _ => some 0) c = _
    rw [va_up_ne _ _ h']
  · show va_up s.2.2.2.2.1 s.1 (fun _ => some 0) c = _
    rw [va_up_ne _ _ h']
def NoC (_ _ : Nat) : Prop := False
theorem plan_new {h h' : AH} (H : HG h' (cPlan (hn h) (sA (sH h) (0, 2) 16))) : hn h' = hn h + 11 ∧ hz h' = hz h + 274 ∧ PlanAt h' (hn h) ∧ Gx NoC NoC h h' := by
  obtain ⟨g1, g2, g3, g4, g5, g6⟩ := H
  have sa : (sA (sH h) (0, 2) 16).1 = hn h + 1 := rfl
  have T : ∀ c, hs h' c = (cPl0 (hn h) (sA (sH h) (0, 2) 16)).2.1 c := fun c => congrFun g2 c
  have R : ∀ c k, hR h' c k = (cPl0 (hn h) (sA (sH h) (0, 2) 16)).2.2.1 c k := fun c k => congrFun (congrFun g3 c) k
  have s0 : (sA (sH h) (0, 2) 16).2.1 (hn h) = (0, 2) := va_up_self _ _ _
  refine ⟨g1, ?_, ?_, ?_, fun c hc => ?_, fun c k hc _ => ?_, fun c k hc _ => ?_⟩
  · rw [g6]; show hz h + 16 + 8 + 14 + 14 + 4 + 4 + 4 + 64 + 2 + 16 + 128 = hz h + 274; omega
  · unfold PlanAt
    simp only [T, R, cPl0_s sa, cPl0_r sa]
    refine ⟨?_, ?_, ?_, ?_, ?_, ?_, ?_, ?_, ?_, ?_, ?_, ?_, ?_, ?_, ?_, ?_, ?_, ?_, ?_, ?_, ?_⟩
    · rw [if_neg (by omega), if_neg (by omega), if_neg (by omega), if_neg (by omega), if_neg (by omega), if_neg (by omega), if_neg (by omega), if_neg (by omega), if_neg (by omega), if_neg (by omega)]; exact s0
    all_goals simp
  · rw [g1]; show hn h ≤ hn h + 11; omega
  · rw [T, cPl0_s sa, if_neg (by omega), if_neg (by omega), if_neg (by omega), if_neg (by omega), if_neg (by omega), if_neg (by omega), if_neg (by omega), if_neg (by omega), if_neg (by omega), if_neg (by omega)]
    show va_up (hs h) (hn h) (0, 2) c = hs h c
    rw [va_up_ne _ _ (by omega)]
  · rw [R]
    unfold cPl0
    rw [sX_ro (by omega) (by simp only [sX_1]; omega), sX_ro (by omega) (by simp only [sX_1]; omega), sX_ro (by omega) (by simp only [sX_1]; omega), sX_ro (by omega) (by simp only [sX_1]; omega), sX_ro (by omega) (by simp only [sX_1]; omega), sX_ro (by omega) (by simp only [sX_1]; omega), sX_ro (by omega) (by simp only [sX_1]; omega), sX_ro (by omega) (by simp only [sX_1]; omega), sX_ro (by omega) (by simp only [sX_1]; omega), sX_ro (by omega) (by omega)]
    show va_up (hR h) (hn h) (fun _ => none) c k = hR h c k
    rw [va_up_ne _ _ (by omega)]
  · have V0 : (cPl0 (hn h) (sA (sH h) (0, 2) 16)).2.2.2.1 c = (sA (sH h) (0, 2) 16).2.2.2.1 c ∧ (cPl0 (hn h) (sA (sH h) (0, 2) 16)).2.2.2.2.1 c = (sA (sH h) (0, 2) 16).2.2.2.2.1 c := by
      unfold cPl0
      constructor
      · rw [(sX_vo (by simp only [sX_1]; omega)).1, (sX_vo (by simp only [sX_1]; omega)).1, (sX_vo (by simp only [sX_1]; omega)).1, (sX_vo (by simp only [sX_1]; omega)).1, (sX_vo (by simp only [sX_1]; omega)).1, (sX_vo (by simp only [sX_1]; omega)).1, (sX_vo (by simp only [sX_1]; omega)).1, (sX_vo (by simp only [sX_1]; omega)).1, (sX_vo (by simp only [sX_1]; omega)).1, (sX_vo (by omega)).1]
      · rw [(sX_vo (by simp only [sX_1]; omega)).2, (sX_vo (by simp only [sX_1]; omega)).2, (sX_vo (by simp only [sX_1]; omega)).2, (sX_vo (by simp only [sX_1]; omega)).2, (sX_vo (by simp only [sX_1]; omega)).2, (sX_vo (by simp only [sX_1]; omega)).2, (sX_vo (by simp only [sX_1]; omega)).2, (sX_vo (by simp only [sX_1]; omega)).2, (sX_vo (by simp only [sX_1]; omega)).2, (sX_vo (by omega)).2]
    have S1 : (sA (sH h) (0, 2) 16).2.2.2.1 c = fun k => some (fI h c k) := va_up_ne _ _ (show ¬ c = hn h by omega)
    have S2 : (sA (sH h) (0, 2) 16).2.2.2.2.1 c = fun k => some (hL h c k) := va_up_ne _ _ (show ¬ c = hn h by omega)
    constructor
    · rw [hI_f h]
      refine g4 c k _ ?_
      show va_up (va_up (va_up (cPl0 (hn h) (sA (sH h) (0, 2) 16)).2.2.2.1 (hn h + 7) _) (hn h) _) (hn h) _ c k = _
      rw [va_up_ne _ _ (by omega), va_up_ne _ _ (by omega), va_up_ne _ _ (by omega), V0.1, S1]
    · refine g5 c k _ ?_
      show va_up (cPl0 (hn h) (sA (sH h) (0, 2) 16)).2.2.2.2.1 (hn h + 7) _ c k = _
      rw [va_up_ne _ _ (by omega), V0.2, S2]
theorem v55_0 {X : Cst} {d : Nat} {a : Nat} {h : AH} {Q : Post}
  (w : hs h a = (0, 0) ∧ ∃ q1, hR h a 1 = some q1 ∧ Ex X PG d 3 0 [some (.ref (hn h))] [] (aN h (0, 2) 16) (fun v2 h3 => v2 = none ∧
      hs h3 a = (0, 0) ∧ Q (some (.ref q1)) (wR h3 a 1 (some (hn h))))) :
    Ex X PG (d + 1) 55 0 [some (.ref a), none] [] h Q := wpx_ok (cut := []) 10 d 55 0 _ _ _ _ w
theorem m55 {X : Cst} {d rp : Nat} {h : AH} {Q : Post} (C : Lay h) (h281 : 281 ≤ hn h) (P : hR h 3 1 = some rp) (hd : 3 ≤ d) (k : ∀ h', hn h' = hn h + 11 → hz h' = hz h + 274 → PlanAt h' (hn h) → Gx NoC NoC h h' → Q (some (.ref rp)) (wR h' 3 1 (some (hn h)))) : Ex X PG d 55 0 [some (.ref 3), none] [] h Q := by
  obtain ⟨d, rfl⟩ : ∃ e, d = e + 1 := ⟨d - 1, by omega⟩
  refine v55_0 ⟨ls3 C, rp, P, ?_⟩
  refine m3c (s := sA (sH h) (0, 2) 16) (by omega) ⟨(HG_H h).al, by show hn h < hn h + 1; omega, va_up_self _ _ _⟩ rfl (fun h3 H3 => ?_)
  obtain ⟨p1, p2, p3, p4⟩ := plan_new H3
  exact ⟨rfl, by rw [p4.2.1 3 (by omega)]; exact ls3 C, k h3 p1 p2 p3 p4⟩
/-- a said that finishes R -/
noncomputable def finR (R : Int → Int) (k : Int) : Int := if k < 42 then R k else if k < 84 then pI (tlt R (R (42 + 3 * ((k - 42) / 3))) (R (42 + 3 * ((k - 42) / 3) + 1))) (R k) (if (k - 42) % 3 = 0 then R (k + 1) else if (k - 42) % 3 = 1 then R (k - 1) else R k) else if k < 115 then 0 else if (k - 115) % 2 = 0 then R (10 + 6 * ((k - 115) / 2)) else R (10 + 6 * ((k - 115) / 2) + 1)
theorem finR_ok {R : Int → Int} (h1 : R 1 ≤ 14) : FinS R (finR R) := by
  refine ⟨fun k k0 k1 => by unfold finR; rw [if_pos k1], fun d d0 d1 => ?_, fun k k0 k1 => by unfold finR; rw [if_neg (by omega), if_neg (by omega), if_pos k1], fun p p0 p1 => ⟨?_, ?_⟩⟩
  · have e0 : finR R (42 + 3 * d) = pI (tlt R (R (42 + 3 * d)) (R (42 + 3 * d + 1))) (R (42 + 3 * d)) (R (42 + 3 * d + 1)) := by
      unfold finR
      rw [if_neg (by omega), if_pos (by omega), show (42 + 3 * d - 42) / 3 = d by omega, if_pos (by omega)]
    have e1 : finR R (42 + 3 * d + 1) = pI (tlt R (R (42 + 3 * d)) (R (42 + 3 * d + 1))) (R (42 + 3 * d + 1)) (R (42 + 3 * d)) := by
      unfold finR
      rw [if_neg (by omega), if_pos (by omega), show (42 + 3 * d + 1 - 42) / 3 = d by omega, if_neg (by omega), if_pos (by omega), show 42 + 3 * d + 1 - 1 = 42 + 3 * d by omega]
    have e2 : finR R (42 + 3 * d + 2) = R (42 + 3 * d + 2) := by
      unfold finR
      rw [if_neg (by omega), if_pos (by omega), show (42 + 3 * d + 2 - 42) / 3 = d by omega, if_neg (by omega), if_neg (by omega)]
      by_cases c : tlt R (R (42 + 3 * d)) (R (42 + 3 * d + 1))
      · rw [pI_pos c]
      · rw [pI_neg c]
    refine ⟨e2, ?_⟩
    by_cases c : tlt R (R (42 + 3 * d)) (R (42 + 3 * d + 1))
    · rw [pI_pos c] at e0 e1; exact Or.inl ⟨c, e0, e1⟩
    · rw [pI_neg c] at e0 e1; exact Or.inr ⟨c, e0, e1⟩
  · unfold finR
    rw [if_neg (by omega), if_neg (by omega), if_neg (by omega), if_pos (by omega), show (115 + 2 * p - 115) / 2 = p by omega]
  · unfold finR
    rw [if_neg (by omega), if_neg (by omega), if_neg (by omega), if_neg (by omega), show (115 + 2 * p + 1 - 115) / 2 = p by omega]
theorem PlanRep.gx' {T U : Nat → Nat → Prop} {h h' : AH} {a : Nat} {S : Int → Int} (P : PlanRep h a S) (X : Gx T U h h') (ha : a + 10 < hn h) (n : ∀ c k, T c k → c < a ∨ a + 10 < c) : PlanRep h' a S := by
  have P0 : PlanRep (ov h h') a S := P
  exact P0.fr X.ov (fun c k z => by rcases z with z | z; exact n c k z; omega)
theorem PlanAt.wr2 {h : AH} {a : Nat} {x y : Option Nat} (K : PlanAt h a) (n3 : ¬ a = 3) (n52 : ¬ a = 52) : PlanAt (wR (wR h 3 1 x) 52 0 y) a := by
  have e : ∀ k, hR (wR (wR h 3 1 x) 52 0 y) a k = hR h a k := fun k => by rw [hR_wR_ne (by omega), hR_wR_ne (by omega)]
  unfold PlanAt
  rw [e, e, e, e, e, e, e, e, e, e]
  exact K
def T20 (rp c k : Nat) : Prop := TCr rp c k ∨ (c = 1 ∧ k = 1) ∨ (64 ≤ c ∧ c ≤ 69) ∨ (c = 52 ∧ k = 4) ∨ (c = 0 ∧ k = 14)
def T20f (rp c k : Nat) : Prop := TCr rp c k ∨ (c = 1 ∧ k = 1)
def U20 (c k : Nat) : Prop := (c = 3 ∧ k = 1) ∨ (c = 52 ∧ k = 0)
set_option maxRecDepth 20000 in
theorem U20_n (c k : Nat) (u : U20 c k) : LRt.lookup (c * 64 + k) = none := by
  obtain ⟨rfl, rfl⟩ | ⟨rfl, rfl⟩ := u <;> rfl
theorem v20_0 {X : Cst} {d : Nat} {a : Nat} {h : AH} {Q : Post}
  (w : hs h a = (0, 10) ∧ ∃ q1, hR h a 1 = some q1 ∧ hs h q1 = (0, 0) ∧ Ex X PG d 21 0 [some (.ref q1), none, none] [] h (fun v2 h3 => v2 = none ∧
      hs h3 a = (0, 10) ∧ ∃ q4, hR h3 a 0 = some q4 ∧ hs h3 q4 = (0, 8) ∧ hs h3 a = (0, 10) ∧ ∃ q5, hR h3 a 0 = some q5 ∧ hs h3 q5 = (0, 8) ∧ ((hI h3 q4 6 = 0 →
        hs (wI h3 q5 1 0) a = (0, 10) ∧ ∃ q6, hR (wI h3 q5 1 0) a 5 = some q6 ∧ hs (wI h3 q5 1 0) a = (0, 10) ∧ ∃ q7, hR (wI h3 q5 1 0) a 1 = some q7 ∧ hs (wI h3 q5 1 0) q7 = (0, 0) ∧ Ex X PG d 55 0 [some (.ref q7), none] [] (wI h3 q5 1 0) (fun v8 h9 => ∃ r10, v8 = some (.ref r10) ∧
          hs h9 q6 = (0, 6) ∧ hs (wR h9 q6 0 (some r10)) a = (0, 10) ∧ ∃ q11, hR (wR h9 q6 0 (some r10)) a 5 = some q11 ∧ hs (wR h9 q6 0 (some r10)) q11 = (0, 6) ∧ ∃ q12, hR (wR h9 q6 0 (some r10)) q11 1 = some q12 ∧ hs (wR h9 q6 0 (some r10)) a = (0, 10) ∧ ∃ q13, hR (wR h9 q6 0 (some r10)) a 5 = some q13 ∧ hs (wR h9 q6 0 (some r10)) q13 = (0, 6) ∧ ∃ q14, hR (wR h9 q6 0 (some r10)) q13 0 = some q14 ∧ hs (wR h9 q6 0 (some r10)) q12 = (0, 9) ∧ Ex X PG d 56 0 [some (.ref q12), some (.ref q14)] [] (wR h9 q6 0 (some r10)) (fun v15 h16 => v15 = none ∧
            hs h16 a = (0, 10) ∧ ∃ q17, hR h16 a 5 = some q17 ∧ hs h16 q17 = (0, 6) ∧ hs (wI h16 q17 4 0) a = (0, 10) ∧ hs (wI (wI h16 q17 4 0) a 14 0) a = (0, 10) ∧ ∃ q18, hR (wI (wI h16 q17 4 0) a 14 0) a 5 = some q18 ∧ hs (wI (wI h16 q17 4 0) a 14 0) q18 = (0, 6) ∧ ∃ q19, hR (wI (wI h16 q17 4 0) a 14 0) q18 0 = some q19 ∧ hs (wI (wI h16 q17 4 0) a 14 0) q19 = (0, 2) ∧ Q (some (.int (hI (wI (wI h16 q17 4 0) a 14 0) q19 2))) (wI (wI h16 q17 4 0) a 14 0)))) ∧
      (¬ (hI h3 q4 6 = 0) →
        Q (some (.int ((-2) - (hI h3 q4 6)))) (wI h3 q5 1 0))))) :
    Ex X PG (d + 1) 20 0 [some (.ref a), none] [] h Q := wpx_ok (cut := []) 38 d 20 0 _ _ _ _ w
theorem m20 {X : Cst} {d rp : Nat} {L : Int} {tp U : Int → Int} {r : RS} {h : AH} {Q : Post} (C : Lay h) (h281 : 281 ≤ hn h) (K : PlanAt h rp) (Pr : hR h 3 1 = some rp) (hX : X.2 = X2) (hd : 8 ≤ d) (arp : rp = 4 ∨ 281 ≤ rp) (hrp : rp + 10 < hn h) (et : aI h 2 = tp) (eL : fI h 1 1 = L) (hL : 0 ≤ L ∧ L ≤ 400) (er : r = rdC tp L 41 (skp tp L 0) 0 (crR U))
    (k1 : r.1 = 0 → ∀ h', Gx (T20 rp) U20 h h' → hn h' = hn h + 11 → hz h' = hz h + 274 → Lay h' → PlanAt h' rp → hR h' 52 0 = some rp → hR h' 3 1 = some (hn h) → PlanAt h' (hn h) → (∀ S, FinS r.2.2 S → CS h' rp S ∧ WF 0 S) → fI h' 1 1 = 0 → fI h' 0 14 = 0 → Q (some (.int (J (r.2.2 2)))) h')
    (k0 : ¬ r.1 = 0 → ∀ h', Fr (T20f rp) h h' → fI h' 1 1 = 0 → Q (some (.int (J (-2 - r.1)))) h') : Ex X PG d 20 0 [some (.ref 0), none] [] h Q := by
  obtain ⟨d, rfl⟩ : ∃ e, d = e + 1 := ⟨d - 1, by omega⟩
  have sb := skp_b (tp := tp) (L := L) (i := 0) (by omega) hL.1
  refine v20_0 ⟨ls0 C, 3, lr0_1 C, ls3 C, ?_⟩
  refine m21 C K Pr (by omega) hX (by omega) et eL hL er ⟨fun e h3 F3 G3 e6 => ⟨rfl, ?_⟩, fun e h3 F3 e6 => ⟨rfl, ?_⟩⟩
  rotate_left
  · have C3 := F3.C C
    refine ⟨ls0 C3, 1, lr0_0 C3, ls1 C3, ls0 C3, 1, lr0_0 C3, ls1 C3, fun z => ?_, fun _ => ?_⟩
    · have : fI h3 1 6 = 0 := by unfold fI; rw [z]; rfl
      exact absurd (e6.symm.trans this) e
    · have e1 : (-2 : Int32) - hI h3 1 6 = J (-2 - r.1) := by rw [hI_f, e6, show (-2 : Int32) = J (-2) from rfl, J_sub]
      rw [e1, show wI h3 1 1 0 = wF h3 1 1 0 from wI_wF _ _ _ _]
      exact k0 e _ ((F3.mo (U := T20f rp) (fun _ _ z => Or.inl z)).wF (Or.inr ⟨rfl, rfl⟩)) (fI_wF_eq (by omega))
  have C3 := F3.C C
  obtain ⟨n', hn', I'⟩ := CI_rdC (tp := tp) (L := L) 41 (skp tp L 0) 0 (crR U) (CI_crR U) (by omega) (by omega) (by rw [← er]; exact e)
  rw [← er] at I'
  have i2 := I'.2.1
  refine ⟨ls0 C3, 1, lr0_0 C3, ls1 C3, ls0 C3, 1, lr0_0 C3, ls1 C3, fun _ => ?_, fun z => ?_⟩
  rotate_left
  · exact absurd (by rw [hI_f, e6]; rfl) z
  rw [show wI h3 1 1 0 = wF h3 1 1 0 from wI_wF _ _ _ _]
  have F4 : Fr (T20 rp) h (wF h3 1 1 0) := (F3.mo (U := T20 rp) (fun _ _ z => Or.inl z)).wF (Or.inr (Or.inl ⟨rfl, rfl⟩))
  have G4 : ∀ S, FinS r.2.2 S → PlanRep (wF h3 1 1 0) rp S := fun S fs => (G3 S fs).fr (T := fun c _ => c = 1) (Fr.rf.wF rfl) (fun c k z => by omega)
  have e11 : fI (wF h3 1 1 0) 1 1 = 0 := fI_wF_eq (by omega)
  generalize wF h3 1 1 0 = h4 at *
  have C4 := F4.C C
  have K4 := PlanAt_SH F4.1 K
  have P4 : hR h4 3 1 = some rp := hR_fr F4 Pr
  have n4 : hn h4 = hn h := F4.1.hn
  have z4 : hz h4 = hz h := F4.1.hz
  refine ⟨ls0 C4, 52, lr0_5 C4, ls0 C4, 3, lr0_1 C4, ls3 C4, ?_⟩
  refine m55 C4 (by omega) P4 (by omega) (fun h5 p1 p2 p3 p4 => ⟨rp, rfl, ?_⟩)
  have X5 : Gx (T20 rp) U20 h h5 := (Gx.of F4).tr (p4.mo (fun _ _ z => z.elim) (fun _ _ z => z.elim))
  have K5 : PlanAt h5 rp := K4.gx p4 (by omega) (fun k z => z)
  have G5 : ∀ S, FinS r.2.2 S → PlanRep h5 rp S := fun S fs => (G4 S fs).gx' p4 (by omega) (fun c k z => z.elim)
  have f5 : ∀ c k, c < 281 → fI h5 c k = fI h4 c k := fun c k hc => p4.f c k (by omega) (fun z => z)
  rw [n4] at p1 p3
  have X6 : Gx (T20 rp) U20 h (wR (wR h5 3 1 (some (hn h4))) 52 0 (some rp)) := X5.tr ((Gx.wR (Or.inl ⟨rfl, rfl⟩)).tr (Gx.wR (Or.inr ⟨rfl, rfl⟩)))
  have C6 := X6.C C h281 U20_n
  have s6 : hs (wR h5 3 1 (some (hn h4))) = hs h5 := rfl
  have C5' : Lay (wR h5 3 1 (some (hn h4))) := (X5.tr (Gx.wR (Or.inl ⟨rfl, rfl⟩))).C C h281 U20_n
  have K6 : PlanAt (wR (wR h5 3 1 (some (hn h4))) 52 0 (some rp)) rp := K5.wr2 (by omega) (by omega)
  have K6n : PlanAt (wR (wR h5 3 1 (some (hn h4))) 52 0 (some rp)) (hn h) := p3.wr2 (by omega) (by omega)
  have P6 : hR (wR (wR h5 3 1 (some (hn h4))) 52 0 (some rp)) 52 0 = some rp := hR_wR_eq
  have P6' : hR (wR (wR h5 3 1 (some (hn h4))) 52 0 (some rp)) 3 1 = some (hn h) := by rw [hR_wR_ne (by omega), hR_wR_eq, n4]
  have G6 : ∀ S, FinS r.2.2 S → PlanRep (wR (wR h5 3 1 (some (hn h4))) 52 0 (some rp)) rp S := fun S fs => G5 S fs
  have n6 : hn (wR (wR h5 3 1 (some (hn h4))) 52 0 (some rp)) = hn h + 11 := p1
  have z6 : hz (wR (wR h5 3 1 (some (hn h4))) 52 0 (some rp)) = hz h + 274 := by show hz h5 = _; rw [p2, z4]
  have e6' : fI (wR (wR h5 3 1 (some (hn h4))) 52 0 (some rp)) 1 1 = 0 := by rw [fI_wR, fI_wR, f5 1 1 (by omega)]; exact e11
  refine ⟨ls52 C5', ls0 C6, 52, lr0_5 C6, ls52 C6, 64, lr52_1 C6, ls0 C6, 52, lr0_5 C6, ls52 C6, rp, P6, ls64 C6, ?_⟩
  generalize wR (wR h5 3 1 (some (hn h4))) 52 0 (some rp) = h6 at *
  refine m56 C6 (WorldAt_64 C6) K6 (by omega) (by omega) (fun h7 s7 w7 => ⟨rfl, ?_⟩)
  obtain ⟨F7, W7⟩ := w7
  have C7 := F7.C C6
  refine ⟨ls0 C7, 52, lr0_5 C7, ls52 C7, ?_⟩
  rw [show wI h7 52 4 0 = wF h7 52 4 0 from wI_wF _ _ _ _, show wI (wF h7 52 4 0) 0 14 0 = wF (wF h7 52 4 0) 0 14 0 from wI_wF _ _ _ _]
  have F8 : Fr (fun c k => (64 ≤ c ∧ c ≤ 69) ∨ (c = 52 ∧ k = 4) ∨ (c = 0 ∧ k = 14)) h6 (wF (wF h7 52 4 0) 0 14 0) := ((F7.mo (U := fun c k => (64 ≤ c ∧ c ≤ 69) ∨ (c = 52 ∧ k = 4) ∨ (c = 0 ∧ k = 14)) (fun c k z => Or.inl z)).wF (Or.inr (Or.inl ⟨rfl, rfl⟩))).wF (Or.inr (Or.inr ⟨rfl, rfl⟩))
  have F78 : Fr (fun c k => (c = 52 ∧ k = 4) ∨ (c = 0 ∧ k = 14)) h7 (wF (wF h7 52 4 0) 0 14 0) := (Fr.rf.wF (Or.inl ⟨rfl, rfl⟩)).wF (Or.inr ⟨rfl, rfl⟩)
  have e8 : fI (wF (wF h7 52 4 0) 0 14 0) 0 14 = 0 := fI_wF_eq (by omega)
  have e8' : fI (wF (wF h7 52 4 0) 0 14 0) 52 4 = 0 := by rw [fI_wF_ne (by decide), fI_wF_eq (by omega)]
  have C7a : Lay (wF h7 52 4 0) := Lay_SH SH.rf.wF C7
  have C8 := F8.C C6
  have P8 : hR (wF (wF h7 52 4 0) 0 14 0) 52 0 = some rp := hR_fr F8 P6
  have K8 := PlanAt_SH F8.1 K6
  refine ⟨ls0 C7a, ls0 C8, 52, lr0_5 C8, ls52 C8, rp, P8, K8.1, ?_⟩
  generalize wF (wF h7 52 4 0) 0 14 0 = h8 at *
  have G8 : ∀ S, FinS r.2.2 S → PlanRep h8 rp S := fun S fs => (G6 S fs).fr F8 (fun c k z => by omega)
  have p2' : fI h8 rp 2 = r.2.2 2 := by
    have fs := finR_ok (R := r.2.2) (by omega)
    rw [(G8 _ fs).1.2.2.1]; exact fs.1 2 (by omega) (by omega)
  rw [hI_f, p2']
  refine k1 e h8 (X6.tr (Gx.of (F8.mo (fun c k z => Or.inr (Or.inr z))))) (F8.1.hn.trans n6) (F8.1.hz.trans z6) C8 K8 P8 (hR_fr F8 P6') (PlanAt_SH F8.1 K6n) (fun S fs => ?_) (by rw [F8.f 1 1 (by omega)]; exact e6') e8
  have W := WF_fin I' hn' fs
  have q114 := fs.2.2.1 114 (by omega) (by omega)
  have PR := G8 S fs
  have PR6 := G6 S fs
  refine ⟨⟨by omega, PR, ⟨fun p p0 p1 => ?_, fun p p0 p1 => ?_, ?_⟩, by rw [e8', q114], fun k k0 k1 => by omega⟩, W⟩
  · have e2 := fs.1 2 (by omega) (by omega)
    have w := W7.1 p p0 (by omega)
    have f := fs.2.2.2 p p0 (by omega)
    have q := PR6.2.2.2.2.1 p p0 p1
    have ci := I'.2.2.2.2.2.2 p p0 (by omega)
    rw [F78.a (64 + 1) (by omega), F78.a (64 + 2) (by omega), F78.a (64 + 3) (by omega), F78.a (64 + 4) (by omega), F78.a (64 + 5) (by omega)]
    unfold pS
    rw [fs.1 (10 + 6 * p + 0) (by omega) (by omega), fs.1 (10 + 6 * p + 1) (by omega) (by omega), fs.1 (10 + 6 * p + 3) (by omega) (by omega), fs.1 (10 + 6 * p + 4) (by omega) (by omega), fs.1 (10 + 6 * p + 5) (by omega) (by omega), Int.add_zero]
    omega
  · have w := W7.1 p (by have := W.1; unfold WFb at this; omega) p1
    rw [F78.a (64 + 3) (by omega), F78.a (64 + 4) (by omega)]
    exact ⟨w.2.2.1, w.2.2.2.1⟩
  · rw [F78.f 64 5 (by omega), W7.2, fs.1 3 (by omega) (by omega)]
    exact i2.2.2.2.2.symm
