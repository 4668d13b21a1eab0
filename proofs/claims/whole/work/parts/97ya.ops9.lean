/-! THE LAW, CALL BY CALL: rules. -/
theorem CU_keep {T : Nat → Nat → Prop} {g h2 : AH} {n : Int} {Rs : Int → Ru} (U : CU g n Rs) (F : Fr T g h2) (hn5 : n ≤ 5) (b : ∀ c k, T c k → 16 ≤ c → c ≤ 51 → c = 46 ∨ (16 + 5 * n.toNat ≤ c ∧ c ≤ 16 + 5 * n.toNat + 4)) : ClsRule h2 47 R1 ∧ ∀ k : Int, 0 ≤ k → k < n → ClsRule h2 (16 + 5 * k.toNat) (Rs k) ∧ RuleOK (Rs k) := by
  obtain ⟨u1, u2, u3, u4⟩ := U
  refine ⟨u3.fr F (fun c k z => ?_), fun k k0 k1 => ⟨(u4 k k0 k1).1.fr F (fun c j z => ?_), (u4 k k0 k1).2⟩⟩
  · by_cases q : 16 ≤ c ∧ c ≤ 51
    · have := b c k z q.1 q.2; omega
    · omega
  · by_cases q : 16 ≤ c ∧ c ≤ 51
    · have := b c j z q.1 q.2; omega
    · omega
theorem LK.gx0 {T U : Nat → Nat → Prop} {h h' : AH} {pl rp : Nat} {iq : Int → Nat} {kp : Int → Int} {pl0 mk qu ln pq0 co ne be lp : Nat} (A : LK h pl rp iq kp pl0 mk qu ln pq0 co ne be lp) (X : Gx T U h h') (C : Lay h') (u : ∀ c k, U c k → c = 46) : LK h' pl rp iq kp pl0 mk qu ln pq0 co ne be lp := by
  obtain ⟨b1, b2, b3, b4, b5, b6, b7⟩ := A
  have h281 := b1.2
  have hl := X.1
  have hr : ∀ c k, c < 281 → ¬ c = 46 → hR h' c k = hR h c k := fun c k hc n => X.2.2.1 c k (by omega) (fun z => n (u c k z))
  have pA : ∀ q, PlA h q mk qu co ne be → PlA h' q mk qu co ne be := fun q Q => Q.gx X (fun k z => by have := u _ _ z; have := Q.2.2.1; omega) Q.2.2.2.1 Q.2.2.2.2
  refine ⟨⟨C, by omega⟩, ⟨by rw [hr 52 0 (by omega) (by omega)]; exact b2.1, pA _ b2.2.1, b2.2.2⟩, ⟨by rw [hr 3 1 (by omega) (by omega)]; exact b3.1, pA _ b3.2.1, b3.2.2⟩, fun x x0 x1 kk => ?_, ⟨?_, ⟨Nat.lt_of_lt_of_le b5.2.1.1 hl, Nat.lt_of_lt_of_le b5.2.1.2 hl⟩, b5.2.2⟩, ⟨?_, ⟨Nat.lt_of_lt_of_le b6.2.1.1 hl, Nat.lt_of_lt_of_le b6.2.1.2.1 hl, Nat.lt_of_lt_of_le b6.2.1.2.2 hl⟩, b6.2.2⟩, b7⟩
  · have b := b4 x x0 x1 kk
    exact ⟨by rw [hr _ 0 (by omega) (by omega)]; exact b.1, pA _ b.2.1, b.2.2⟩
  · obtain ⟨p1, p2, p3, p4, p5, p6⟩ := b5.1
    exact ⟨by rw [hr 247 0 (by decide) (by decide)]; exact p1, by rw [hr 247 4 (by decide) (by decide)]; exact p2, by rw [hr 247 5 (by decide) (by decide)]; exact p3, by rw [X.2.1 mk b5.2.1.1]; exact p4, by rw [X.2.1 qu b5.2.1.2]; exact p5, p6⟩
  · obtain ⟨p1, p2, p3, p4, p5, p6, p7, p8⟩ := b6.1
    exact ⟨by rw [hr 250 0 (by decide) (by decide)]; exact p1, by rw [hr 250 4 (by decide) (by decide)]; exact p2, by rw [hr 250 5 (by decide) (by decide)]; exact p3, by rw [hr 250 6 (by decide) (by decide)]; exact p4, by rw [X.2.1 co b6.2.1.1]; exact p5, by rw [X.2.1 ne b6.2.1.2.1]; exact p6, by rw [X.2.1 be b6.2.1.2.2]; exact p7, p8⟩
def TRu (ru t n0 c k : Nat) : Prop := T57 ru c k ∨ TRr t c k ∨ n0 ≤ c
theorem TRu_b {ru t n0 c k : Nat} (z : TRu ru t n0 c k) : c = 1 ∨ (c = 46 ∧ k = 2) ∨ (ru ≤ c ∧ c ≤ ru + 3) ∨ (c = 0 ∧ k = 13) ∨ (c = 256 ∧ (k = 1 ∨ k = 2 ∨ (8 ≤ k ∧ k ≤ 14) ∨ k = 16)) ∨ (258 ≤ c ∧ c ≤ 263 ∧ ¬ c = 262) ∨ n0 ≤ c := by
  unfold TRu T57 TUs TAd TEn TRr TRq TRg TRh TRt TRp TRe at z
  rcases z with z | z | z
  · rcases z with z | z | z
    · rcases z with z | z | z | z
      · exact Or.inl z.1
      · exact Or.inr (Or.inl z)
      · exact Or.inr (Or.inr (Or.inl (by omega)))
      · exact Or.inr (Or.inr (Or.inl (by omega)))
    · exact Or.inl z.1
    · exact Or.inr (Or.inr (Or.inr (Or.inl z)))
  · rcases z with z | z
    · rcases z with z | z
      · rcases z with z | z
        · rcases z with z | z
          · rcases z with z | z | z
            · exact Or.inr (Or.inr (Or.inr (Or.inr (Or.inl (by omega)))))
            · exact Or.inr (Or.inr (Or.inr (Or.inr (Or.inr (Or.inl (by omega))))))
            · exact Or.inr (Or.inr (Or.inr (Or.inr (Or.inr (Or.inl (by omega))))))
          · exact Or.inr (Or.inr (Or.inr (Or.inr (Or.inr (Or.inl (by omega))))))
        · exact Or.inr (Or.inr (Or.inr (Or.inr (Or.inl (by omega)))))
      · exact Or.inr (Or.inr (Or.inr (Or.inr (Or.inl (by omega)))))
    · exact Or.inr (Or.inr (Or.inr (Or.inr (Or.inl (by omega)))))
  · exact Or.inr (Or.inr (Or.inr (Or.inr (Or.inr (Or.inr z)))))
set_option maxRecDepth 100000 in
set_option maxHeartbeats 4000000 in
theorem v290_263 {X : Cst} {d : Nat} {a : Nat} {a1 : Nat} {a2 : Nat} {x3 : Int32} {h : AH} {Q : Post}
  (w : hs h a1 = (0, 10) ∧ Ex X PG d 57 0 [some (.ref a1), none] [] h (fun v1 h2 => ∃ r3, v1 = some (.int r3) ∧
      hs h2 a2 = (0, 11) ∧ Ex X PG d 172 0 [some (.ref a2)] [] h2 (fun v4 h5 => ∃ r6, v4 = some (.int r6) ∧
        ((r3 = r6 →
          Ex X PG (d + 1) 290 18 [some (.retAddr a), some (.ref a1), some (.ref a2), some (.int (x3 + 6))] [] h5 Q) ∧
        (¬ (r3 = r6) →
          ((0 : Int32) = 0 ∨ (0 : Int32) = 1) ∧ Q (some (.int 0)) h5))))) :
    Ex X PG (d + 1) 290 263 [some (.retAddr a), some (.ref a1), some (.ref a2), some (.int x3)] [] h Q := wpx_ok (cut := [18]) 7 d 290 263 _ _ _ _ w
set_option maxHeartbeats 4000000 in
theorem op263 : OpP 263 := by
  intro X d x3 h Q N hX hd hN hx I K
  obtain ⟨pl, rp, iq, pl0, mk, qu, ln, pq0, co, ne, be, lp, n, Rs, a1, a2, a3, a4, a5, a6, a7, a8⟩ := id I
  have C := a1.1.1
  have h281 := a1.1.2
  have P := a1.2.1.1
  have KP := a1.2.1.2.1.1
  obtain ⟨t1, t2, t3, t4⟩ := id a2
  have hn6 := a3.1.2.1
  have sw := a1.2.1.2.1.2.2.1
  refine v290_263 ⟨ls0 C, ?_⟩
  refine m57 C KP P h281 a1.2.1.2.1.2.1 sw hX (by omega) t2 a3.1.1 hn6 rfl rfl t4 rfl (fun e6 => ⟨_, rfl, ls256 C, ?_⟩) (fun n6 e h1 X1 n1 z1 C1 K1 P1 f13 f11 cr => ⟨_, rfl, ls256 C1, ?_⟩) (fun n6 e h1 X1 n1 z1 C1 K1 P1 f13 f11 => ⟨_, rfl, ls256 C1, ?_⟩)
  · exact m172 C (by omega) t2 a3.2.1 hn6 t1 t3 t4 rfl (fun _ => ⟨_, rfl, fun _ => K _ (I.up (by omega)), fun z => absurd rfl z⟩) (fun q => absurd e6 q) (fun q => absurd e6 q)
  all_goals
    have tb : ∀ c k, T57 (16 + 5 * n.toNat) c k → c = 1 ∨ (c = 46 ∧ k = 2) ∨ (16 + 5 * n.toNat ≤ c ∧ c ≤ 16 + 5 * n.toNat + 3) ∨ (c = 0 ∧ k = 13) := fun c k z => by
      have y := TRu_b (t := 0) (n0 := 300) (Or.inl z)
      unfold T57 TUs TAd TEn at z
      omega
    have b257 : aI h1 257 = aI h 2 := (X1.a 257 (by omega) (fun k z => by have := tb _ _ z; omega)).trans t1
    have b1 : fI h1 256 1 = fI h 1 1 := (X1.f 256 1 (by omega) (fun z => by have := tb _ _ z; omega)).trans t3
    have b2 : fI h1 256 2 = n := (X1.f 256 2 (by omega) (fun z => by have := tb _ _ z; omega)).trans a3.2.1
    have o58 : aI h1 258 = aI h 258 := X1.a 258 (by omega) (fun k z => by have := tb _ _ z; omega)
    have o60 : aI h1 260 = aI h 260 := X1.a 260 (by omega) (fun k z => by have := tb _ _ z; omega)
    have o61 : aI h1 261 = aI h 261 := X1.a 261 (by omega) (fun k z => by have := tb _ _ z; omega)
    have L1 := a1.gx0 X1 C1 (fun c k z => z.1)
    have fin : ∀ (h2 : AH) (m : Int) (Rs' : Int → Ru), n ≤ m → Fr (TRr n.toNat) h1 h2 → fI h2 256 1 = 0 → cRl h2 m Rs' → Inv h2 (N + 1) := by
      intro h2 m Rs' nm F2 u1 k3
      have F1' : Fr (fun c k => T57 (16 + 5 * n.toNat) c k ∨ hn h ≤ c) (ov h h1) h1 := X1.ov
      have F12 : Fr (TRu (16 + 5 * n.toNat) n.toNat (hn h)) (ov h h1) h2 := (F1'.mo (fun c k z => by rcases z with z | z; exact Or.inl z; exact Or.inr (Or.inr z))).tr (F2.mo (fun c k z => Or.inr (Or.inl z)))
      have e80 : aI h2 280 = aI h 280 := F12.a 280 (fun k z => by have := TRu_b z; omega)
      have f11' : fI h2 1 1 = 0 := by
        rw [F2.f 1 1 (fun z => by unfold TRr TRq TRg TRh TRt TRp TRe at z; omega)]; exact f11
      obtain ⟨m1, m2, -⟩ := a1.ms
      have l5 := a1.2.2.2.2.1.2.1
      have lp' := a1.2.1.2.1.2.1
      refine ⟨pl, rp, iq, pl0, mk, qu, ln, pq0, co, ne, be, lp, m, Rs', by rw [e80]; exact L1.sh F2.1, ⟨?_, ?_, by rw [u1, f11'], by rw [f11']; omega, by rw [f11']; omega⟩, k3, ?_, (cPa.fr (show cPa (ov h h1) N from a5) F12 (fun c k z => by have := TRu_b z; omega)).up (by omega), ((cIm.fr (show cIm (ov h h1) N n iq from a6) F12 (fun c k z => ?_)).up (by omega)).un nm, cSe.fr (show cSe (ov h h1) mk qu ln from a7) F12 (fun c k z => by have := TRu_b z; omega), ?_⟩
      · rw [F12.a 257 (fun k z => by have := TRu_b z; omega), F12.a 2 (fun k z => by have := TRu_b z; omega)]; exact t1
      · rw [F12.a 2 (fun k z => by have := TRu_b z; omega)]; exact t2
      · have s : cSc h2 N n pl := cSc.fr (show cSc (ov h h1) N n pl from a4) F12 (fun c k z => by have := TRu_b z; clear m1 m2; omega)
        exact ⟨s.1, s.2.1.up (by omega), ⟨s.2.2.1.1, s.2.2.1.2.1, by have := s.2.2.1.2.2; omega⟩, s.2.2.2⟩
      · have y := TRu_b z
        clear m1 m2
        refine ⟨by omega, by omega, fun x x0 x1 kk => ?_⟩
        have w2 := (a1.2.2.2.1 x x0 x1 kk).2.1.2.2.1
        have l2 := (a1.2.2.2.1 x x0 x1 kk).2.1.2.1
        omega
      · have s := F2.1
        unfold Room at a8 ⊢
        rw [s.hn, s.hz, n1, z1]
        omega
    have ku : ∀ h2, Fr (TRr n.toNat) h1 h2 → ClsRule h2 47 R1 ∧ ∀ k : Int, 0 ≤ k → k < n → ClsRule h2 (16 + 5 * k.toNat) (Rs k) ∧ RuleOK (Rs k) := by
      intro h2 F2
      have F1' : Fr (fun c k => T57 (16 + 5 * n.toNat) c k ∨ hn h ≤ c) (ov h h1) h1 := X1.ov
      have F12 : Fr (TRu (16 + 5 * n.toNat) n.toNat (hn h)) (ov h h1) h2 := (F1'.mo (fun c k z => by rcases z with z | z; exact Or.inl z; exact Or.inr (Or.inr z))).tr (F2.mo (fun c k z => Or.inr (Or.inl z)))
      exact CU_keep (show CU (ov h h1) n Rs from a3.1) F12 (by omega) (fun c k z c0 c1 => by have := TRu_b z; omega)
    have kr : ∀ h2, Fr (TRr n.toNat) h1 h2 → ∀ g : Int, 0 ≤ g → g < n → RuleOK (Rs g) ∧ RefRule (aI h2 258) (aI h2 260) (aI h2 261) g (Rs g) := by
      intro h2 F2 g g0 g1
      rcases a3.2.2 g (by omega) g1 with q | q
      · omega
      · refine ⟨q.2.1, RefRule_keep F2 (by omega) (by omega) q.2.1 ?_⟩
        rw [o58, o60, o61]; exact q.2.2
    have f13' : ∀ h2, Fr (TRr n.toNat) h1 h2 → fI h2 0 13 = fI h1 0 13 := fun h2 F2 => F2.f 0 13 (fun z => by unfold TRr TRq TRg TRh TRt TRp TRe at z; omega)
  · refine m172 C1 (by omega) t2 b2 hn6 b257 b1 t4 rfl (fun q => absurd q n6) (fun _ _ h2 F2 u2 u1 rr ok => ⟨_, rfl, fun _ => K _ ?_, fun z => absurd rfl z⟩) (fun _ q => absurd e q)
    obtain ⟨c47, ck⟩ := ku h2 F2
    have cr2 := cr.fr F2 (fun c k z => by unfold TRr TRq TRg TRh TRt TRp TRe at z; omega)
    generalize mkR _ _ = R2 at *
    refine fin h2 (n + 1) (fun g => if g = n then R2 else Rs g) (by omega) F2 u1 ⟨⟨(f13' h2 F2).trans f13, by omega, c47, fun k k0 k1 => ?_⟩, u2, fun g g0 g1 => ?_⟩
    · by_cases q : k = n
      · show ClsRule h2 (16 + 5 * k.toNat) (if k = n then R2 else Rs k) ∧ RuleOK (if k = n then R2 else Rs k)
        rw [if_pos q, q]; exact ⟨cr2, ok⟩
      · show ClsRule h2 (16 + 5 * k.toNat) (if k = n then R2 else Rs k) ∧ RuleOK (if k = n then R2 else Rs k)
        rw [if_neg q]; exact ck k k0 (by omega)
    · by_cases q0 : g < 0
      · exact Or.inl q0
      · refine Or.inr ⟨by omega, ?_⟩
        by_cases q : g = n
        · show RuleOK (if g = n then R2 else Rs g) ∧ RefRule (aI h2 258) (aI h2 260) (aI h2 261) g (if g = n then R2 else Rs g)
          rw [if_pos q, q]; exact ⟨ok, rr⟩
        · show RuleOK (if g = n then R2 else Rs g) ∧ RefRule (aI h2 258) (aI h2 260) (aI h2 261) g (if g = n then R2 else Rs g)
          rw [if_neg q]; exact kr h2 F2 g (by omega) (by omega)
  · refine m172 C1 (by omega) t2 b2 hn6 b257 b1 t4 rfl (fun q => absurd q n6) (fun _ q => absurd q e) (fun _ _ h2 F2 u2 u1 => ⟨_, rfl, fun _ => K _ ?_, fun z => absurd rfl z⟩)
    obtain ⟨c47, ck⟩ := ku h2 F2
    refine fin h2 n Rs (by omega) F2 u1 ⟨⟨(f13' h2 F2).trans f13, hn6, c47, ck⟩, u2, fun g g0 g1 => ?_⟩
    by_cases q0 : g < 0
    · exact Or.inl q0
    · exact Or.inr ⟨by omega, kr h2 F2 g (by omega) g1⟩
