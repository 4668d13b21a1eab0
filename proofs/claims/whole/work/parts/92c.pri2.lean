/-! THE CLASS: await. -/
def TAw (co ne be c k : Nat) : Prop := c = co ∨ TLv ne be c k
theorem m128 {X : Cst} {d pl co ne be ln : Nat} {N x c clk : Int} {W : Int → Prop} {ts : Int → Int} {h : AH} {Q : Post} (C : Lay h) (K : PlanAt h pl) (B : PriAt h pl co ne be ln) (ap : apP pl co ne be) (hd : 2 ≤ d) (hN : 0 ≤ N ∧ N ≤ ln) (D : DLh h co ne be N W ts clk) (hx : 0 ≤ x ∧ x < N) (hc : 0 ≤ c ∧ c < 2147483647) (sw : c < aI h co x → (aI h co x = 2147483647 ↔ ¬ W x))
    (k1 : ¬ c < aI h co x → Q none h) (k2 : c < aI h co x → ∀ h' ts' clk', Fr (TAw co ne be) h h' → aI h' co = uu_ (aI h co) x c → DLh h' co ne be N (fun y => W y ∨ y = x) ts' clk' → Q none h') : Ex X PG d 128 0 [some (.ref 250), some (.int (J x)), some (.int (J c)), none] [] h Q := by
  obtain ⟨d, rfl⟩ : ∃ e, d = e + 1 := ⟨d - 1, by omega⟩
  have ln8 := B.2.2.2.2.2.2.2
  have app := ap
  obtain ⟨p1, p2, p3, ⟨p4, p5, p6⟩, p7, p8, p9⟩ := app
  -- put in front
  have put : c < aI h co x → ∀ (h1 : AH) (V : Int → Prop), Fr (TLv ne be) h h1 → DLh h1 co ne be N V ts clk → ¬ V x → (∀ y, (V y ∨ y = x) ↔ (W y ∨ y = x)) → ((0 ≤ c - idv c 51 * 51 ∧ c - idv c 51 * 51 < 51) ∧ ((aI h1 254 (c - idv c 51 * 51) = (-1) → Q none (wF (wA (wA (wA (wA h1 co x c) ne x (aI h1 254 (c - idv c 51 * 51))) be x (-1)) 254 (c - idv c 51 * 51) x) 250 9 ((fI h1 250 9) + 1))) ∧ (¬ aI h1 254 (c - idv c 51 * 51) = (-1) → (0 ≤ aI h1 254 (c - idv c 51 * 51) ∧ aI h1 254 (c - idv c 51 * 51) < ln) ∧ Q none (wF (wA (wA (wA (wA (wA h1 co x c) ne x (aI h1 254 (c - idv c 51 * 51))) be x (-1)) be (aI h1 254 (c - idv c 51 * 51)) x) 254 (c - idv c 51 * 51) x) 250 9 ((fI h1 250 9) + 1))))) := by
    intro cl h1 V F1 D1 vx eq
    rw [mod51 (by omega)]
    have r51 : 0 ≤ c % 51 ∧ c % 51 < 51 := by omega
    have ec : aI h1 co = aI h co := F1.a co (fun k z => by unfold TLv at z; omega)
    have rf : -2147483648 ≤ aI h1 254 (c % 51) ∧ aI h1 254 (c % 51) < 2147483648 := aI_rg _ _ _
    have ca : cnt (fun y => V y ∨ y = x) N = cnt V N + 1 := cnt_add (p := x) hx (fun q _ _ n => ⟨fun z => Or.inl z, fun z => z.elim (fun y => y) (fun y => absurd y n)⟩) vx (Or.inr rfl)
    have cb := cnt_b (fun y => V y ∨ y = x) (i := N) hN.1
    have fn : ∀ h', Fr (TAw co ne be) h1 h' → fI h' 250 9 = fI h1 250 9 + 1 → aI h' co = uu_ (aI h1 co) x c → aI h' ne = uu_ (aI h1 ne) x (aI h1 254 (c % 51)) → aI h' 254 = uu_ (aI h1 254) (c % 51) x → (aI h1 254 (c % 51) = -1 → aI h' be = uu_ (aI h1 be) x (-1)) → (¬ aI h1 254 (c % 51) = -1 → aI h' be = uu_ (uu_ (aI h1 be) x (-1)) (aI h1 254 (c % 51)) x) → Q none h' := by
      intro h' F e9 e1 e2 e3 b1 b2
      have DD := DL_add (by omega) D1.1 vx hx hc.1 b1 b2
      refine k2 cl h' (fun y => if y = x then clk else ts y) (clk + 1) ((F1.mo fun c k z => Or.inr z).tr F) (by rw [e1, ec]) ⟨?_, ?_⟩
      · rw [e1, e2, e3]
        rw [show (fun y => W y ∨ y = x) = (fun y => V y ∨ y = x) from funext (fun y => propext (eq y).symm)]
        exact DD
      · rw [e9, D1.2, show (fun y => W y ∨ y = x) = (fun y => V y ∨ y = x) from funext (fun y => propext (eq y).symm), ca]
    refine ⟨r51, fun c2 => ?_, fun c2 => ?_⟩
    · refine fn _ ((((((Fr.rf (T := TAw co ne be)).wA (by unfold TAw TLv; omega)).wA (by unfold TAw TLv; omega)).wA (by unfold TAw TLv; omega)).wA (by unfold TAw TLv; omega)).wF (by unfold TAw TLv; omega)) (fI_wF_eq (by rw [D1.2]; omega)) ?_ ?_ ?_ (fun _ => ?_) (fun z => absurd c2 z)
      · rw [aI_wF_ne (by omega), aI_wA_ne (by omega), aI_wA_ne (by omega), aI_wA_ne (by omega), aI_wA (by omega)]
      · rw [aI_wF_ne (by omega), aI_wA_ne (by omega), aI_wA_ne (by omega), aI_wA rf, aI_wA_ne (by omega)]
      · rw [aI_wF_ne (by decide), aI_wA (by omega), aI_wA_ne (by omega), aI_wA_ne (by omega), aI_wA_ne (by omega)]
      · rw [aI_wF_ne (by omega), aI_wA_ne (by omega), aI_wA (by decide), aI_wA_ne (by omega), aI_wA_ne (by omega)]
    · have f := D1.1.2.2.2.2.1 _ r51.1 r51.2 c2
      have rr := D1.1.1 _ f.1
      refine ⟨by omega, ?_⟩
      refine fn _ (((((((Fr.rf (T := TAw co ne be)).wA (by unfold TAw TLv; omega)).wA (by unfold TAw TLv; omega)).wA (by unfold TAw TLv; omega)).wA (by unfold TAw TLv; omega)).wA (by unfold TAw TLv; omega)).wF (by unfold TAw TLv; omega)) (fI_wF_eq (by rw [D1.2]; omega)) ?_ ?_ ?_ (fun z => absurd z c2) (fun _ => ?_)
      · rw [aI_wF_ne (by omega), aI_wA_ne (by omega), aI_wA_ne (by omega), aI_wA_ne (by omega), aI_wA_ne (by omega), aI_wA (by omega)]
      · rw [aI_wF_ne (by omega), aI_wA_ne (by omega), aI_wA_ne (by omega), aI_wA_ne (by omega), aI_wA rf, aI_wA_ne (by omega)]
      · rw [aI_wF_ne (by decide), aI_wA (by omega), aI_wA_ne (by omega), aI_wA_ne (by omega), aI_wA_ne (by omega), aI_wA_ne (by omega)]
      · rw [aI_wF_ne (by omega), aI_wA_ne (by omega), aI_wA (by omega), aI_wA (by decide), aI_wA_ne (by omega), aI_wA_ne (by omega)]
  refine r128_0 C K B ap ?_
  refine ⟨by omega, fun z => absurd z (by omega), fun _ => ⟨by omega, fun z => absurd z (by omega), fun _ => ⟨by omega, by omega, fun cl => ⟨fun cu => ?_, fun cu => ?_⟩, fun cl => k1 cl⟩⟩⟩
  · exact r128_40 C K B ap ⟨by omega, put cl h W Fr.rf D ((sw cl).mp cu) (fun y => Iff.rfl)⟩
  · have wx : W x := Classical.byContradiction fun z => cu ((sw cl).mpr z)
    refine m129 C K B ap (by omega) hN D wx (fun h1 F1 D1 => ⟨rfl, F1.1, ?_⟩)
    refine put cl h1 _ F1 D1 (fun z => z.2 rfl) (fun y => ?_)
    by_cases z : y = x
    · exact ⟨fun _ => Or.inr z, fun _ => Or.inr z⟩
    · exact ⟨fun q => q.elim (fun q => Or.inl q.1) Or.inr, fun q => q.elim (fun q => Or.inl ⟨q, z⟩) Or.inr⟩
