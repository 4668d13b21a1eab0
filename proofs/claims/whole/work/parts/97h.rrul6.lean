/-! RULES as the reference reads them: readsAll() over a rule's text, rule(). -/
def TRq (t : Nat) (c k : Nat) : Prop := TRg t c k ∨ (c = 256 ∧ k = 1)
def RQq (h : AH) (t : Nat) (r : RT) (Q : Post) : Prop := (r.1 = 0 → ∀ h', Fr (TRq t) h h' → CoR h' t r.2.2.2.1 → EnR h' t r.2.2.2.2 → fI h' 256 1 = 0 → Q (some (.int (J 1))) h') ∧ (¬ r.1 = 0 → ∀ h', Fr (TRq t) h h' → fI h' 256 9 = r.1 → fI h' 256 1 = 0 → Q (some (.int (J 0))) h')
theorem TRq_9 {t : Nat} : TRq t 256 9 := Or.inl (Or.inl (Or.inl (by unfold TRt; omega)))
theorem TRq_8 {t : Nat} : TRq t 256 8 := Or.inl (Or.inl (Or.inl (by unfold TRt; omega)))
theorem TRq_1 {t : Nat} : TRq t 256 1 := Or.inr ⟨rfl, rfl⟩
theorem CoR.w {h : AH} {t : Nat} {c : Cd} {k : Nat} {v : Int} (G : CoR h t c) (ht : t < 6) (hc : c.length ≤ 400) : CoR (wF h 256 k v) t c := G.fr (T := fun a b => a = 256) ht hc (Fr.rf.wF rfl) (fun a b z => by unfold TRp; omega)
theorem EnR.w {h : AH} {t : Nat} {e : En} {k : Nat} {v : Int} (G : EnR h t e) (ht : t < 6) (hc : e.length ≤ 12) : EnR (wF h 256 k v) t e := G.fr (T := fun a b => a = 256) ht hc (Fr.rf.wF rfl) (fun a b z => by unfold TRe; omega)
theorem q173g {X : Cst} {d t : Nat} {L : Int} {tp : Int → Int} {h : AH} {Q : Post} (C : Lay h) (hd : 12 ≤ d) (B : BT tp) (ht : t < 6) :
    ∀ (m : Nat) (g : Int) (r : RT) (h' : AH), Fr (TRq t) h h' → (r.1 = 0 → g = 1 ∧ RP h' tp L r.2.1 r.2.2.1 r.2.2.2.1 t ∧ EnR h' t r.2.2.2.2 ∧ fI h' 256 14 = r.2.2.2.2.length ∧ RI L r.2.1 r.2.2.1 r.2.2.2.1 r.2.2.2.2 ∧ 13 ≤ m + r.2.2.2.2.length) → (¬ r.1 = 0 → g = 0 ∧ fI h' 256 9 = r.1) → RQq h t (rsR tp L m r) Q → Ex X PG (d + 1) 173 35 [some (.ref 256), some (.int (J g))] [] h' Q := by
  intro m
  induction m with
  | zero =>
    intro g r h' F y1 y0 k
    have rn : ¬ r.1 = 0 := fun e => by have := y1 e; have := this.2.2.2.2.1.2.2.2.1; omega
    obtain ⟨eg, e9⟩ := y0 rn
    subst eg
    unfold rsR at k
    rw [pI_neg rn] at k
    refine r173_35 (F.C C) ⟨by omega, fun _ => ⟨fun _ => ?_, fun z => absurd (e9.symm.trans z) rn⟩, fun z => absurd rfl z⟩
    exact k.2 rn _ (F.wF TRq_1) (by rw [fI_wF_nk (by decide)]; exact e9) (fI_wF_eq (by omega))
  | succ m ih =>
    intro g r h' F y1 y0 k
    unfold rsR at k
    by_cases rn : r.1 = 0
    rotate_left
    · obtain ⟨eg, e9⟩ := y0 rn
      subst eg
      rw [pI_neg rn] at k
      refine r173_35 (F.C C) ⟨by omega, fun _ => ⟨fun _ => ?_, fun z => absurd (e9.symm.trans z) rn⟩, fun z => absurd rfl z⟩
      exact k.2 rn _ (F.wF TRq_1) (by rw [fI_wF_nk (by decide)]; exact e9) (fI_wF_eq (by omega))
    obtain ⟨eg, R, E, e14, I, hm⟩ := y1 rn
    subst eg
    rw [pI_pos rn] at k
    have kj := R.1.j
    have I3 := I.2.2.1
    have I4 := I.2.2.2.1
    have C' := F.C C
    have sv := seeV_is (tp := tp) (L := L) (j := r.2.1) B kj.1 kj.2.2.1
    refine r173_35 C' ⟨by omega, fun z => absurd z (by decide), fun _ => ?_⟩
    refine m175 C' (by omega) R.1 (fun h2 F2 K2 e2 => ⟨_, by omega, rfl, F2.1, fun c => ?_, fun c => ?_⟩)
    · have R2 := R.nx ht (by omega) F2 K2
      have E2 := E.fr ht I4 F2 (fun a k z => by unfold TNx at z; unfold TRe; omega)
      have G2 : Fr (TRq t) h h2 := F.tr (F2.mo (fun _ _ z => Or.inl (TNx_g z)))
      refine m175 (G2.C C) (by omega) K2 (fun h3 F3 K3 e3 => ⟨_, by omega, rfl, F3.1, fun c3 => ?_, fun c3 => ?_⟩)
      · have R3 := R2.nx ht (by omega) F3 K3
        have E3 := E2.fr ht I4 F3 (fun a k z => by unfold TNx at z; unfold TRe; omega)
        have G3 : Fr (TRq t) h h3 := G2.tr (F3.mo (fun _ _ z => Or.inl (TNx_g z)))
        rw [pI_pos (sv.2.1.mp c3)] at k
        refine ⟨fun z => absurd K3.2.2.2.2 z, fun _ => ?_⟩
        exact k.1 rn _ (G3.wF TRq_1) (R3.2.2.2.w ht (by omega)) (E3.w ht I4) (fI_wF_eq (by omega))
      · have G3 : Fr (TRq t) h h3 := G2.tr (F3.mo (fun _ _ z => Or.inl (TNx_g z)))
        have nl : ¬ L ≤ r.2.1 := fun z => c3 (sv.2.1.mpr z)
        have ns : ¬ tp r.2.1 = 59 := fun z => c ((sv.1 59 (by omega) (by omega)).mpr ⟨by omega, z⟩)
        rw [pI_neg nl, pI_neg ns] at k
        rw [e3]
        refine m179 (G3.C C) (by omega) K3.2.2.2.2 ⟨0, by omega, rfl, SH.rf.wF, fun _ => ?_, fun z => ?_⟩
        · refine k.2 (by show ¬ 1 + 8 * r.2.1 = 0; omega) _ ((G3.wF TRq_9).wF TRq_1) ?_ (fI_wF_eq (by omega))
          rw [fI_wF_nk (by decide), fI_wF_eq (by omega)]
          show 1 + 8 * r.2.1 + 0 = 1 + 8 * r.2.1
          omega
        · rw [fI_wF_eq (by omega)] at z; omega
    · have m59 := (sv.1 59 (by omega) (by omega)).mp c
      rw [pI_neg (by omega), pI_pos m59.2, rdR_s] at k
      have R2 := R.nx ht (by omega) F2 K2
      have E2 := E.fr ht I4 F2 (fun a k z => by unfold TNx at z; unfold TRe; omega)
      have G2 : Fr (TRq t) h h2 := F.tr (F2.mo (fun _ _ z => Or.inl (TNx_g z)))
      rw [e2]
      have R3 := R2.st (i := r.2.1 + 1) ht (by omega) (by omega)
      rw [← nx59 m59.1 m59.2] at R3
      have nb := nx_b (tp := tp) (L := L) (j := r.2.1) kj.1 kj.2.1
      have G3 : Fr (TRq t) h (wF h2 256 8 (r.2.1 + 1)) := G2.wF TRq_8
      have I' : RI L (nx tp L r.2.1) r.2.2.1 r.2.2.2.1 r.2.2.2.2 := ⟨by omega, I.2.1, by omega, I4, I.2.2.2.2⟩
      refine m174g (G3.C C) (by omega) B ht R3 (by rw [fI_wF_nk (by decide), F2.f 256 14 (by unfold TNx; omega)]; exact e14) (E2.w ht I4) I' rfl ⟨fun z h4 F4 R4 E4 e4 => ⟨1, by omega, rfl, F4.1, ?_⟩, fun z h4 F4 e9 => ⟨0, by omega, rfl, F4.1, ?_⟩⟩
      · have gk := gc_ok I' z
        exact ih 1 _ h4 (G3.tr (F4.mo (fun _ _ z => Or.inl z))) (fun _ => ⟨rfl, R4, E4, e4, gk.1, by omega⟩) (fun n => absurd z n) k
      · exact ih 0 _ h4 (G3.tr (F4.mo (fun _ _ z => Or.inl z))) (fun z' => absurd z' z) (fun _ => ⟨rfl, e9⟩) k
theorem m173g {X : Cst} {d t : Nat} {L : Int} {tp : Int → Int} {r : RT} {h : AH} {Q : Post} (C : Lay h) (hd : 13 ≤ d) (B : BT tp) (ht : t < 6) (et : aI h 257 = tp) (eL : fI h 256 1 = L) (hL : 0 ≤ L ∧ L ≤ 400) (e11 : fI h 256 11 = t) (e61 : aI h 261 t = 0) (er : r = rdR tp L 13 (skp tp L 0) 0 [] []) (k : RQq h t r Q) : Ex X PG d 173 0 [some (.ref 256), none] [] h Q := by
  obtain ⟨d, rfl⟩ : ∃ e, d = e + 1 := ⟨d - 1, by omega⟩
  have sb := skp_b (tp := tp) (L := L) (i := 0) (by omega) hL.1
  refine r173_0 C ?_
  rw [e11]
  refine ⟨by omega, ?_⟩
  have F1 : Fr (TRq t) h (wA h 259 t 0) := Fr.rf.wA (Or.inl (Or.inl (Or.inl (Or.inr (Or.inr (Or.inl ⟨rfl, by rw [tn_eq (by omega)]; omega⟩))))))
  have F2 : Fr (TRq t) h (wF (wF (wF (wF (wA h 259 t 0) 256 14 0) 256 8 0) 256 9 0) 256 12 0) := (((F1.wF (Or.inl (Or.inr ⟨rfl, rfl⟩))).wF TRq_8).wF TRq_9).wF (Or.inl (Or.inl (Or.inl (by unfold TRt; omega))))
  have R2 : RP (wF (wF (wF (wF (wA h 259 t 0) 256 14 0) 256 8 0) 256 9 0) 256 12 0) tp L (skp tp L 0) 0 [] t := by
    refine ⟨⟨?_, ⟨?_, hL⟩, ?_, ?_, ?_⟩, fI_wF_eq (by omega), ?_, ⟨?_, fun i i0 i1 => ?_⟩⟩
    · rw [aI_wF_ne (by decide), aI_wF_ne (by decide), aI_wF_ne (by decide), aI_wF_ne (by decide), aI_wA_ne (by decide)]; exact et
    · rw [fI_wF_nk (by decide), fI_wF_nk (by decide), fI_wF_nk (by decide), fI_wF_nk (by decide), fI_wA_ne (by decide)]; exact eL
    · rw [fI_wF_nk (by decide), fI_wF_nk (by decide), fI_wF_eq (by omega)]; omega
    · rw [fI_wF_nk (by decide), fI_wF_nk (by decide), fI_wF_eq (by omega)]
    · rw [fI_wF_nk (by decide), fI_wF_eq (by omega)]
    · rw [fI_wF_nk (by decide), fI_wF_nk (by decide), fI_wF_nk (by decide), fI_wF_nk (by decide), fI_wA_ne (by decide)]; exact e11
    · rw [aI_wF_ne (by decide), aI_wF_ne (by decide), aI_wF_ne (by decide), aI_wF_ne (by decide), aI_wA (by omega), uu_eq]; rfl
    · have : (([] : Cd).length : Int) = 0 := rfl
      omega
  have E2 : EnR (wF (wF (wF (wF (wA h 259 t 0) 256 14 0) 256 8 0) 256 9 0) 256 12 0) t [] := by
    refine ⟨?_, fun i i0 i1 => ?_⟩
    · rw [aI_wF_ne (by decide), aI_wF_ne (by decide), aI_wF_ne (by decide), aI_wF_ne (by decide), aI_wA_ne (by decide)]; exact e61
    · have : (([] : Cd).length : Int) = 0 := rfl
      omega
  have e14 : fI (wF (wF (wF (wF (wA h 259 t 0) 256 14 0) 256 8 0) 256 9 0) 256 12 0) 256 14 = (([] : En).length : Int) := by rw [fI_wF_nk (by decide), fI_wF_nk (by decide), fI_wF_nk (by decide), fI_wF_eq (by omega)]; rfl
  generalize wF (wF (wF (wF (wA h 259 t 0) 256 14 0) 256 8 0) 256 9 0) 256 12 0 = h2 at *
  have I0 : RI L (skp tp L 0) 0 [] [] := ⟨by omega, by omega, by show (0 : Int) ≤ skp tp L 0; omega, by decide, Blt.z⟩
  rw [rdR_s] at er
  rw [er] at k
  refine m174g (F2.C C) (by omega) B ht R2 e14 E2 I0 rfl ⟨fun z h4 F4 R4 E4 e4 => ⟨1, by omega, rfl, F4.1, ?_⟩, fun z h4 F4 e9 => ⟨0, by omega, rfl, F4.1, ?_⟩⟩
  · have gk := gc_ok I0 z
    have z0 : ([] : En).length = 0 := rfl
    exact q173g C (by omega) B ht 12 1 _ h4 (F2.tr (F4.mo (fun _ _ z => Or.inl z))) (fun _ => ⟨rfl, R4, E4, e4, gk.1, by omega⟩) (fun n => absurd z n) k
  · exact q173g C (by omega) B ht 12 0 _ h4 (F2.tr (F4.mo (fun _ _ z => Or.inl z))) (fun z' => absurd z' z) (fun _ => ⟨rfl, e9⟩) k
def TRr (t : Nat) (c k : Nat) : Prop := TRq t c k ∨ (c = 256 ∧ (k = 2 ∨ k = 11))
theorem RefRule_keep {h h' : AH} {t : Nat} {k : Int} {R : Ru} (F : Fr (TRr t) h h') (ht : t < 6) (hk : 0 ≤ k ∧ k < t) (O : RuleOK R) (r : RefRule (aI h 258) (aI h 260) (aI h 261) k R) : RefRule (aI h' 258) (aI h' 260) (aI h' 261) k R := by
  have n : ∀ (a : Nat) (i : Int), 0 ≤ i → i < 2147483648 → (a = 258 ∧ i < 400 * t ∨ a = 260 ∧ i < 48 * t ∨ a = 261 ∧ i < t) → aI h' a i = aI h a i := fun a i i0 i1 o => F.el a i (fun z => by
    unfold TRr TRq TRg TRh TRt TRp TRe at z
    rw [tn_eq (by omega)] at z
    omega)
  have nc := O.1
  refine ⟨by rw [n 261 k (by omega) (by omega) (by omega)]; exact r.1, fun c c0 c1 => ?_⟩
  have rc := r.2 c c0 c1
  have oc := (O.2 c c0 c1).1
  rw [n 260 _ (by omega) (by omega) (by omega), n 260 _ (by omega) (by omega) (by omega), n 260 _ (by omega) (by omega) (by omega), n 260 _ (by omega) (by omega) (by omega)]
  refine ⟨rc.1, rc.2.1, rc.2.2.1, rc.2.2.2.1, fun j j0 j1 => ?_⟩
  rw [n 258 _ (by omega) (by omega) (by omega)]
  exact rc.2.2.2.2 j j0 j1
theorem RefRule_new {h : AH} {t : Nat} {c : Cd} {e : En} (B : Blt c e) (G : CoR h t c) (E : EnR h t e) : RefRule (aI h 258) (aI h 260) (aI h 261) t (mkR c e) := by
  refine ⟨E.1, fun k k0 k1 => ?_⟩
  have ek := E.2 k k0 k1
  obtain ⟨a, d1, d2, z, e1, e2, e3, e4, -, -⟩ := B.sg k k0 k1
  have lc : c.length = a.length + (d1.length + (d2.length + z.length)) := by rw [e1]; simp only [List.length_append]
  have tb0 : tb (mkR c e) k = a.length := e2
  have te0 : tE (mkR c e) k = a.length + d1.length + d2.length := e4
  exact ⟨ek.1, ek.2.1, ek.2.2.1, ek.2.2.2, fun j j0 j1 => G.2 j (by omega) (by omega)⟩
-- OutwardDoorsModel.rule()I at 0
set_option maxRecDepth 20000 in
set_option maxHeartbeats 4000000 in
theorem r172_0 {X : Cst} {d : Nat}  {h : AH} {Q : Post} (C_h : Lay h)
  (w : ((¬ fI h 256 2 = 6 → (0 ≤ fI h 256 2 ∧ fI h 256 2 < 6) ∧ Ex X PG d 173 0 [some (.ref 256), none] [] (wA (wF h 256 11 (fI h 256 2)) 261 (fI h 256 2) 0) (fun v5 h6 => ∃ r7 : Int, (-2147483648 ≤ r7 ∧ r7 < 2147483648) ∧ v5 = some (.int (J r7)) ∧ SH (wA (wF h 256 11 (fI h 256 2)) 261 (fI h 256 2) 0) h6 ∧ ((¬ r7 = 0 → Q (some (.int (J (((fI h6 256 2) + 1) - 1)))) (wF h6 256 2 ((fI h6 256 2) + 1))) ∧ (r7 = 0 → Q (some (.int (J ((-2) - (fI h6 256 9))))) h6)))) ∧ (fI h 256 2 = 6 → Q (some (.int (J (-1)))) h))) :
    Ex X PG (d + 1) 172 0 [some (.ref 256)] [] h Q := by
  refine wpx_ok (cut := []) 28 d 172 0 _ _ _ _ ?_
  show hs h 256 = (0, 11) ∧ ((¬ (hF h 256 2) = (J 6) → hs h 256 = (0, 11) ∧ hs h 256 = (0, 11) ∧ hs (wG h 256 11 (hF h 256 2)) 256 = (0, 11) ∧ ∃ q3, hR (wG h 256 11 (hF h 256 2)) 256 6 = some q3 ∧ hs (wG h 256 11 (hF h 256 2)) 256 = (0, 11) ∧ (hs (wG h 256 11 (hF h 256 2)) q3).1 = 1 ∧ ix (hF (wG h 256 11 (hF h 256 2)) 256 11) (hs (wG h 256 11 (hF h 256 2)) q3).2 ∧ hs (wI (wG h 256 11 (hF h 256 2)) q3 (Int32.toNatClampNeg (hF (wG h 256 11 (hF h 256 2)) 256 11)) (J 0)) 256 = (0, 11) ∧ Ex X PG d 173 0 [some (.ref 256), none] [] (wI (wG h 256 11 (hF h 256 2)) q3 (Int32.toNatClampNeg (hF (wG h 256 11 (hF h 256 2)) 256 11)) (J 0)) (fun v5 h6 => ∃ r7, v5 = some (.int r7) ∧ ((¬ r7 = (J 0) → hs h6 256 = (0, 11) ∧ hs h6 256 = (0, 11) ∧ hs (wG h6 256 2 ((hF h6 256 2) + (J 1))) 256 = (0, 11) ∧ Q (some (.int ((hF (wG h6 256 2 ((hF h6 256 2) + (J 1))) 256 2) - (J 1)))) (wG h6 256 2 ((hF h6 256 2) + (J 1)))) ∧ (¬ (¬ r7 = (J 0)) → hs h6 256 = (0, 11) ∧ Q (some (.int ((J (-2)) - (hF h6 256 9)))) h6)))) ∧ (¬ (¬ (hF h 256 2) = (J 6)) → Q (some (.int (J (-1)))) h))
  try simp only [aI_wAL, fI_wAL, aL_wA, aL_wF, aI_wA_ne, aI_wF_ne, fI_wA_ne, fI_wF_ne, fI_wF_nk, aL_wAL_ne, J_sameA, J_sameF, aL_same, Nat.add_left_cancel_iff, Nat.add_eq_left, Nat.left_eq_add, not_false_eq_true, Nat.reduceEqDiff, Nat.reduceAdd, J_add, J_sub, J_mul, J_neg, J_and, J_or, J_xor, J_shl, J_shr, J_div, J_i2b, J_i2l, J_l2i, J_lcm, J_max, J_min, J_nab, J_nao, rdA, rdF, rdL, wA_fold, wF_fold, wL_fold, wC_fold]
  refine ⟨(ls256 C_h), ?_⟩
  refine ⟨fun c1 => ?_, fun c1 => ?_⟩
  · have t2 : ¬ fI h 256 2 = 6 := (fun e => c1 ((Jeq (rg_toInt _) (by decide)).mpr e))
    replace w := w.1 t2
    refine ⟨(ls256 C_h), ?_⟩
    refine ⟨(ls256 C_h), ?_⟩
    refine ⟨(ls256 C_h), _, (lr256_6 C_h), ?_⟩
    refine ⟨(ls256 C_h), ?_⟩
    obtain ⟨k4, w⟩ := w
    refine ⟨congrArg Prod.fst (ls261 C_h), ixs (ls261 C_h) k4 (by decide), ?_⟩
    refine ⟨(ls256 C_h), ?_⟩
    refine Ex.mono w (Nat.le_refl _) ?_
    rintro v5 h6 ⟨r7, gr7, rfl, s10, w⟩
    refine ⟨_, rfl, ?_⟩
    have C_h6 := Lay_SH s10 C_h
    try simp only [aI_wAL, fI_wAL, aL_wA, aL_wF, aI_wA_ne, aI_wF_ne, fI_wA_ne, fI_wF_ne, fI_wF_nk, aL_wAL_ne, J_sameA, J_sameF, aL_same, Nat.add_left_cancel_iff, Nat.add_eq_left, Nat.left_eq_add, not_false_eq_true, Nat.reduceEqDiff, Nat.reduceAdd, J_add, J_sub, J_mul, J_neg, J_and, J_or, J_xor, J_shl, J_shr, J_div, J_i2b, J_i2l, J_l2i, J_lcm, J_max, J_min, J_nab, J_nao, rdA, rdF, rdL, wA_fold, wF_fold, wL_fold, wC_fold]
    refine ⟨fun c8 => ?_, fun c8 => ?_⟩
    · have t9 : ¬ r7 = 0 := (fun e => c8 ((Jeq gr7 (by decide)).mpr e))
      replace w := w.1 t9
      refine ⟨(ls256 C_h6), ?_⟩
      refine ⟨(ls256 C_h6), ?_⟩
      refine ⟨(ls256 C_h6), ?_⟩
      exact w
    · have t9 : r7 = 0 := ((Jeq gr7 (by decide)).mp (Classical.byContradiction c8))
      replace w := w.2 t9
      refine ⟨(ls256 C_h6), ?_⟩
      exact w
  · have t2 : fI h 256 2 = 6 := ((Jeq (rg_toInt _) (by decide)).mp (Classical.byContradiction c1))
    replace w := w.2 t2
    exact w
theorem m172 {X : Cst} {d : Nat} {n L : Int} {tp : Int → Int} {r : RT} {h : AH} {Q : Post} (C : Lay h) (hd : 14 ≤ d) (B : BT tp) (en : fI h 256 2 = n) (hn : 0 ≤ n ∧ n ≤ 6) (et : aI h 257 = tp) (eL : fI h 256 1 = L) (hL : 0 ≤ L ∧ L ≤ 400) (er : r = rdR tp L 13 (skp tp L 0) 0 [] [])
    (k6 : n = 6 → Q (some (.int (J (-1)))) h)
    (k1 : ¬ n = 6 → r.1 = 0 → ∀ h', Fr (TRr n.toNat) h h' → fI h' 256 2 = n + 1 → fI h' 256 1 = 0 → RefRule (aI h' 258) (aI h' 260) (aI h' 261) n (mkR r.2.2.2.1 r.2.2.2.2) → RuleOK (mkR r.2.2.2.1 r.2.2.2.2) → Q (some (.int (J n))) h')
    (k0 : ¬ n = 6 → ¬ r.1 = 0 → ∀ h', Fr (TRr n.toNat) h h' → fI h' 256 2 = n → fI h' 256 1 = 0 → Q (some (.int (J (-2 - r.1)))) h') : Ex X PG d 172 0 [some (.ref 256)] [] h Q := by
  obtain ⟨d, rfl⟩ : ∃ e, d = e + 1 := ⟨d - 1, by omega⟩
  obtain ⟨t, rfl⟩ := Int.eq_ofNat_of_zero_le hn.1
  rw [Int.toNat_natCast] at k1 k0
  refine r172_0 C ?_
  rw [en]
  refine ⟨fun n6 => ⟨by omega, ?_⟩, k6⟩
  have ht : t < 6 := by omega
  have F1 : Fr (TRr t) h (wA (wF h 256 11 t) 261 t 0) := (Fr.rf.wF (Or.inr ⟨rfl, Or.inr rfl⟩)).wA (Or.inl (Or.inl (Or.inl (Or.inr (Or.inr ⟨rfl, by rw [tn_eq (by omega)]; omega⟩)))))
  have sb := skp_b (tp := tp) (L := L) (i := 0) (by omega) hL.1
  have ok := rdR_ok (tp := tp) (L := L) 13 (skp tp L 0) 0 [] [] ⟨by omega, by omega, by show (0 : Int) ≤ skp tp L 0; omega, by decide, Blt.z⟩
  rw [← er] at ok
  refine m173g (L := L) (tp := tp) (F1.C C) (by omega) B ht ?_ ?_ hL ?_ ?_ er ⟨fun z h2 F2 G2 E2 e1 => ⟨1, by omega, rfl, F2.1, fun _ => ?_, fun z => absurd z (by decide)⟩, fun z h2 F2 e9 e1 => ⟨0, by omega, rfl, F2.1, fun z => absurd rfl z, fun _ => ?_⟩⟩
  · rw [aI_wA_ne (by decide), aI_wF_ne (by decide)]; exact et
  · rw [fI_wA_ne (by decide), fI_wF_nk (by decide)]; exact eL
  · rw [fI_wA_ne (by decide), fI_wF_eq (by omega)]
  · rw [aI_wA (by omega), uu_eq]
  · obtain ⟨o1, o2, o3, o4, o5⟩ := ok z
    have G := F1.tr (F2.mo (fun _ _ z => Or.inl z))
    have e2 : fI h2 256 2 = t := by rw [F2.f 256 2 (by unfold TRq TRg TRh TRt TRp TRe; omega), fI_wA_ne (by decide), fI_wF_nk (by decide)]; exact en
    rw [e2, show ((t : Int) + 1 - 1) = t by omega]
    refine k1 n6 z _ (G.wF (Or.inr ⟨rfl, Or.inl rfl⟩)) (fI_wF_eq (by omega)) (by rw [fI_wF_nk (by decide)]; exact e1) ?_ (o5.ok o4 (by omega))
    exact RefRule_new o5 (G2.w ht (by omega)) (E2.w ht o4)
  · have e2 : fI h2 256 2 = t := by rw [F2.f 256 2 (by unfold TRq TRg TRh TRt TRp TRe; omega), fI_wA_ne (by decide), fI_wF_nk (by decide)]; exact en
    rw [e9]
    exact k0 n6 z h2 (F1.tr (F2.mo (fun _ _ z => Or.inl z))) e2 e1
