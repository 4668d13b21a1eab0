/-! What a plan sees of said; rules, acts kept and undone in the class. -/
def Stat (S R : Int → Int) : Prop := (∀ k, 0 ≤ k → k < 3 → R k = S k) ∧ R 4 = S 4 ∧ R 5 = S 5 ∧ (∀ k, 34 ≤ k → k < 84 → R k = S k) ∧ (∀ k, 115 ≤ k → k < 123 → R k = S k) ∧ ∀ p, 0 ≤ p → p < S 2 → pS R p 2 = pS S p 2
theorem Stat.nrE {S R : Int → Int} (h : Stat S R) {d : Int} (hd : 0 ≤ d ∧ d < 14) : nr R d = nr S d := h.2.2.2.1 _ (by omega) (by omega)
theorem Stat.frE {S R : Int → Int} (h : Stat S R) {d : Int} (hd : 0 ≤ d ∧ d < 14) : fr R d = fr S d := h.2.2.2.1 _ (by omega) (by omega)
theorem Stat.wnE {S R : Int → Int} (h : Stat S R) {d : Int} (hd : 0 ≤ d ∧ d < 14) : wn R d = wn S d := h.2.2.2.1 _ (by omega) (by omega)
theorem Stat.opnE {N : Int} {S R : Int → Int} (h : Stat S R) (W : WF N S) {t : Prop} {d : Int} (hd : 0 ≤ d ∧ d < S 1) : opn R t d ↔ opn S t d := by
  have b := W.1
  unfold WFb at b
  have dd := W.2.2.2.1 d hd.1 hd.2
  unfold opn
  rw [h.nrE (by omega), h.frE (by omega), h.wnE (by omega), h.2.2.2.1 (34 + nr S d) (by omega) (by omega), h.2.2.2.1 (34 + fr S d) (by omega) (by omega)]
theorem Stat.adjE {N : Int} {S R : Int → Int} (h : Stat S R) (W : WF N S) {t : Prop} : adj R t = adj S t := by
  have b := W.1
  unfold WFb at b
  have e1 : R 1 = S 1 := h.1 1 (by decide) (by decide)
  funext a b
  apply propext
  unfold adj
  rw [e1]
  constructor
  · intro ⟨d, h1, h2, h3⟩
    rw [h.nrE (by omega), h.frE (by omega)] at h3
    exact ⟨d, h1, (h.opnE W h1).mp h2, h3⟩
  · intro ⟨d, h1, h2, h3⟩
    refine ⟨d, h1, (h.opnE W h1).mpr h2, ?_⟩
    rw [h.nrE (by omega), h.frE (by omega)]; exact h3
theorem Stat.lftE {N : Int} {S R : Int → Int} (h : Stat S R) (W : WF N S) {t : Prop} {a b : Int} : lft R t a b = lft S t a b := by
  unfold lft
  rw [h.adjE W]
theorem Stat.dbtE {N : Int} {S R : Int → Int} (h : Stat S R) (W : WF N S) {a b : Int} : dbt R a b = dbt S a b := by
  have bb := W.1
  unfold WFb at bb
  have e1 : R 1 = S 1 := h.1 1 (by decide) (by decide)
  refine lst_cong fun u hu => ?_
  unfold dbtP
  rw [e1]
  constructor
  · intro z; have z1 := z.1; rw [h.nrE (by omega), h.frE (by omega)] at z; exact z
  · intro z; have z1 := z.1; rw [h.nrE (by omega), h.frE (by omega)]; exact z
theorem Stat.fouPE {N : Int} {S R : Int → Int} (h : Stat S R) (W : WF N S) {t : Prop} {x d : Int} (hd : 0 ≤ d) : fouP R t x d ↔ fouP S t x d := by
  have bb := W.1
  unfold WFb at bb
  have e1 : R 1 = S 1 := h.1 1 (by decide) (by decide)
  unfold fouP
  rw [e1]
  constructor
  · intro z; have z1 := z.1; rw [h.nrE (by omega), h.opnE W ⟨hd, z1⟩] at z; exact z
  · intro z; have z1 := z.1; rw [h.nrE (by omega), h.opnE W ⟨hd, z1⟩]; exact z
theorem PlanRep.stat {N : Int} {h : AH} {a : Nat} {S R : Int → Int} (P : PlanRep h a S) (W : WF N S) (s : Stat S R) : PlanRep h a R := by
  have b := W.1
  unfold WFb at b
  have e0 : R 0 = S 0 := s.1 0 (by decide) (by decide)
  have e1 : R 1 = S 1 := s.1 1 (by decide) (by decide)
  have e2 : R 2 = S 2 := s.1 2 (by decide) (by decide)
  obtain ⟨p0, p1, p2, p3, p4, p5, p6, p7, p8⟩ := P
  refine ⟨⟨by rw [e0]; exact p0.1, by rw [e1]; exact p0.2.1, by rw [e2]; exact p0.2.2.1, fun m hm => ?_⟩, ⟨p1.1, p1.2.1, fun d d0 d1 => ?_⟩, fun r r0 r1 => ?_, fun d d0 d1 => ?_, fun p h0 h1 => ?_, fun x y x0 x1 y0 y1 => ?_, fun r r0 r1 => ⟨(p6 r r0 r1).1, fun d d0 d1 => ?_⟩, fun r x r0 r1 x0 x1 => ⟨(p7 r x r0 r1 x0 x1).1, fun d d0 d1 => ?_⟩, fun r x y r0 r1 x0 x1 y0 y1 => ?_⟩
  · rw [p0.2.2.2 m hm]; unfold nightM; rw [e0, s.2.1, s.2.2.1]
  · rw [e1] at d1; rw [s.wnE (by omega)]; exact p1.2.2 d d0 d1
  · rw [s.2.2.2.1 (34 + r) (by omega) (by omega)]; exact p2 r r0 r1
  · rw [e1] at d1; rw [s.nrE (by omega), s.frE (by omega)]; exact p3 d d0 d1
  · rw [e2] at h1; rw [s.2.2.2.2.1 (115 + 2 * p) (by omega) (by omega), s.2.2.2.2.1 (115 + 2 * p + 1) (by omega) (by omega), s.2.2.2.2.2 p h0 h1]; exact p4 p h0 h1
  · rw [s.dbtE W]; exact p5 x y x0 x1 y0 y1
  · rw [(p6 r r0 r1).2 d d0 d1, e1]
    constructor
    · intro z; exact ⟨z.1, (s.opnE W ⟨d0, z.1⟩).mpr z.2⟩
    · intro z; exact ⟨z.1, (s.opnE W ⟨d0, z.1⟩).mp z.2⟩
  · rw [(p7 r x r0 r1 x0 x1).2 d d0 d1, s.fouPE W d0]
  · rw [s.lftE W]; exact p8 r x y r0 r1 x0 (by omega) y0 (by omega)
theorem Stat.mo1E {N : Int} {f : Int} {Rs : Int → Ru} {S : Int → Int} (W : WF N S) : Stat S (mo1 f Rs S) := by
  have b := W.1
  unfold WFb at b
  refine ⟨fun k h0 h1 => mo1_k W (Or.inl (by omega)), mo1_k W (Or.inl (by omega)), mo1_k W (Or.inl (by omega)), fun k h0 h1 => mo1_k W (Or.inr (by omega)), fun k h0 h1 => mo1_k W (Or.inr (by omega)), fun p h0 h1 => ?_⟩
  show pS (mom S _) p 2 = _
  rw [mom_p (by omega) ⟨h0, h1⟩ (by decide)]
  rfl
theorem Stat.tr {S R U : Int → Int} (a : Stat S R) (b : Stat R U) : Stat S U := by
  have e2 : R 2 = S 2 := a.1 2 (by decide) (by decide)
  exact ⟨fun k h0 h1 => (b.1 k h0 h1).trans (a.1 k h0 h1), b.2.1.trans a.2.1, b.2.2.1.trans a.2.2.1, fun k h0 h1 => (b.2.2.2.1 k h0 h1).trans (a.2.2.2.1 k h0 h1), fun k h0 h1 => (b.2.2.2.2.1 k h0 h1).trans (a.2.2.2.2.1 k h0 h1), fun p h0 h1 => (b.2.2.2.2.2 p h0 (by omega)).trans (a.2.2.2.2.2 p h0 h1)⟩
theorem Stat.rf {S : Int → Int} : Stat S S := ⟨fun _ _ _ => rfl, rfl, rfl, fun _ _ _ => rfl, fun _ _ _ => rfl, fun _ _ _ => rfl⟩
