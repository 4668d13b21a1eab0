/-! THE CLASS: images. -/
theorem hR_wR_ne {h : AH} {a j c k : Nat} {x : Option Nat} (n : ¬ (c = a ∧ k = j)) : hR (wR h a j x) c k = hR h c k := by
  by_cases e : c = a
  · subst e
    rw [wR_eq, va_up_ne _ _ (fun z => n ⟨rfl, z⟩)]
  · rw [wR_ne e]
theorem hR_wR_eq {h : AH} {a j : Nat} {x : Option Nat} : hR (wR h a j x) a j = x := by rw [wR_eq, va_up_self]
theorem Lay_wR {h : AH} {a j : Nat} {x : Option Nat} (C : Lay h) (hj : j < 64) (n : LRt.lookup (a * 64 + j) = none) : Lay (wR h a j x) := by
  refine ⟨C.1, fun c k q l e => ?_⟩
  by_cases z : c = a ∧ k = j
  · obtain ⟨rfl, rfl⟩ := z
    rw [n] at e
    exact absurd e (by simp)
  · rw [hR_wR_ne z]; exact C.2 c k q l e
theorem wI_wF (h : AH) (a k : Nat) (x : Int32) : wI h a k x = wF h a k x.toInt := by unfold wF; rw [J_toInt]
def Sc3 (o w n : Nat) : Prop := (o = 52 ∧ w = 64 ∧ n = 70) ∨ (o = 74 ∧ w = 75 ∧ n = 81) ∨ (o = 84 ∧ w = 85 ∧ n = 91) ∨ (o = 94 ∧ w = 95 ∧ n = 101) ∨ (o = 104 ∧ w = 105 ∧ n = 111)
/-- a Scene's cells -/
def ScAt (h : AH) (o w n : Nat) : Prop := hs h o = (0, 6) ∧ hR h o 1 = some w ∧ WorldAt h w ∧ (hR h o 6 = some n ∧ hR h o 7 = some (n + 1) ∧ hR h o 8 = some (n + 2)) ∧ hs h n = (1, 10) ∧ hs h (n + 1) = (1, 10) ∧ hs h (n + 2) = (1, 10)
theorem ScAt_of {h : AH} (C : Lay h) {o w n : Nat} (s : Sc3 o w n) : ScAt h o w n := by
  rcases s with ⟨rfl, rfl, rfl⟩ | ⟨rfl, rfl, rfl⟩ | ⟨rfl, rfl, rfl⟩ | ⟨rfl, rfl, rfl⟩ | ⟨rfl, rfl, rfl⟩
  · exact ⟨ls52 C, lr52_1 C, WorldAt_64 C, ⟨lr52_6 C, lr52_7 C, lr52_8 C⟩, ls70 C, ls71 C, ls72 C⟩
  · exact ⟨ls74 C, lr74_1 C, WorldAt_75 C, ⟨lr74_6 C, lr74_7 C, lr74_8 C⟩, ls81 C, ls82 C, ls83 C⟩
  · exact ⟨ls84 C, lr84_1 C, WorldAt_85 C, ⟨lr84_6 C, lr84_7 C, lr84_8 C⟩, ls91 C, ls92 C, ls93 C⟩
  · exact ⟨ls94 C, lr94_1 C, WorldAt_95 C, ⟨lr94_6 C, lr94_7 C, lr94_8 C⟩, ls101 C, ls102 C, ls103 C⟩
  · exact ⟨ls104 C, lr104_1 C, WorldAt_105 C, ⟨lr104_6 C, lr104_7 C, lr104_8 C⟩, ls111 C, ls112 C, ls113 C⟩
set_option maxRecDepth 20000 in
theorem Lay_wSc {h : AH} (C : Lay h) {o w n : Nat} {x : Option Nat} (s : Sc3 o w n) : Lay (wR h o 0 x) := by
  rcases s with ⟨rfl, rfl, rfl⟩ | ⟨rfl, rfl, rfl⟩ | ⟨rfl, rfl, rfl⟩ | ⟨rfl, rfl, rfl⟩ | ⟨rfl, rfl, rfl⟩ <;> exact Lay_wR C (by decide) rfl
/-- what a Scene shows -/
def ScR (h : AH) (o w n pl : Nat) (S : Int → Int) : Prop := (pl = 4 ∨ pl = 53 ∨ 281 ≤ pl) ∧ PlanRep h pl S ∧ WorldRep h w S ∧ fI h o 4 = S 114 ∧ ∀ k, 0 ≤ k → k < S 114 → aI h n k = S (84 + 3 * k) ∧ aI h (n + 1) k = S (84 + 3 * k + 1) ∧ aI h (n + 2) k = S (84 + 3 * k + 2)
theorem CS_iff {h : AH} {pl : Nat} {S : Int → Int} : CS h pl S ↔ ScR h 52 64 70 pl S := Iff.rfl
def TSc (o w n c k : Nat) : Prop := (c = o ∧ (k = 2 ∨ k = 3 ∨ k = 4)) ∨ (w ≤ c ∧ c ≤ w + 5) ∨ (n ≤ c ∧ c ≤ n + 2)
theorem v166_0 {X : Cst} {d : Nat} {a : Nat} {a1 : Nat} {h : AH} {Q : Post}
  (w : hs h a1 = (0, 6) ∧ ∃ q1, hR h a1 0 = some q1 ∧ hs h a = (0, 6) ∧ hs (wR h a 0 (some q1)) a = (0, 6) ∧ ∃ q2, hR (wR h a 0 (some q1)) a 1 = some q2 ∧ hs (wR h a 0 (some q1)) a1 = (0, 6) ∧ ∃ q3, hR (wR h a 0 (some q1)) a1 1 = some q3 ∧ hs (wR h a 0 (some q1)) q2 = (0, 9) ∧ Ex X PG d 88 0 [some (.ref q2), some (.ref q3)] [] (wR h a 0 (some q1)) (fun v4 h5 => v4 = none ∧
      hs h5 a1 = (0, 6) ∧ hs h5 a = (0, 6) ∧ hs (wI h5 a 2 (hI h5 a1 2)) a1 = (0, 6) ∧ hs (wI h5 a 2 (hI h5 a1 2)) a = (0, 6) ∧ hs (wI (wI h5 a 2 (hI h5 a1 2)) a 3 (hI (wI h5 a 2 (hI h5 a1 2)) a1 3)) a1 = (0, 6) ∧ hs (wI (wI h5 a 2 (hI h5 a1 2)) a 3 (hI (wI h5 a 2 (hI h5 a1 2)) a1 3)) a = (0, 6) ∧ hs (wI (wI (wI h5 a 2 (hI h5 a1 2)) a 3 (hI (wI h5 a 2 (hI h5 a1 2)) a1 3)) a 4 (hI (wI (wI h5 a 2 (hI h5 a1 2)) a 3 (hI (wI h5 a 2 (hI h5 a1 2)) a1 3)) a1 4)) a1 = (0, 6) ∧ ∃ q6, hR (wI (wI (wI h5 a 2 (hI h5 a1 2)) a 3 (hI (wI h5 a 2 (hI h5 a1 2)) a1 3)) a 4 (hI (wI (wI h5 a 2 (hI h5 a1 2)) a 3 (hI (wI h5 a 2 (hI h5 a1 2)) a1 3)) a1 4)) a1 6 = some q6 ∧ hs (wI (wI (wI h5 a 2 (hI h5 a1 2)) a 3 (hI (wI h5 a 2 (hI h5 a1 2)) a1 3)) a 4 (hI (wI (wI h5 a 2 (hI h5 a1 2)) a 3 (hI (wI h5 a 2 (hI h5 a1 2)) a1 3)) a1 4)) a = (0, 6) ∧ ∃ q7, hR (wI (wI (wI h5 a 2 (hI h5 a1 2)) a 3 (hI (wI h5 a 2 (hI h5 a1 2)) a1 3)) a 4 (hI (wI (wI h5 a 2 (hI h5 a1 2)) a 3 (hI (wI h5 a 2 (hI h5 a1 2)) a1 3)) a1 4)) a 6 = some q7 ∧ ((hs (wI (wI (wI h5 a 2 (hI h5 a1 2)) a 3 (hI (wI h5 a 2 (hI h5 a1 2)) a1 3)) a 4 (hI (wI (wI h5 a 2 (hI h5 a1 2)) a 3 (hI (wI h5 a 2 (hI h5 a1 2)) a1 3)) a1 4)) q6).1 = 1 ∧ (hs (wI (wI (wI h5 a 2 (hI h5 a1 2)) a 3 (hI (wI h5 a 2 (hI h5 a1 2)) a1 3)) a 4 (hI (wI (wI h5 a 2 (hI h5 a1 2)) a 3 (hI (wI h5 a 2 (hI h5 a1 2)) a1 3)) a1 4)) q7).1 = 1) ∧ (¬ (0 : Int32) < 0 ∧ ¬ (0 : Int32) < 0 ∧ ¬ (10 : Int32) < 0) ∧ (Int32.toNatClampNeg 0 + Int32.toNatClampNeg 10 ≤ (hs (wI (wI (wI h5 a 2 (hI h5 a1 2)) a 3 (hI (wI h5 a 2 (hI h5 a1 2)) a1 3)) a 4 (hI (wI (wI h5 a 2 (hI h5 a1 2)) a 3 (hI (wI h5 a 2 (hI h5 a1 2)) a1 3)) a1 4)) q6).2 ∧ Int32.toNatClampNeg 0 + Int32.toNatClampNeg 10 ≤ (hs (wI (wI (wI h5 a 2 (hI h5 a1 2)) a 3 (hI (wI h5 a 2 (hI h5 a1 2)) a1 3)) a 4 (hI (wI (wI h5 a 2 (hI h5 a1 2)) a 3 (hI (wI h5 a 2 (hI h5 a1 2)) a1 3)) a1 4)) q7).2) ∧ hs (wC (wI (wI (wI h5 a 2 (hI h5 a1 2)) a 3 (hI (wI h5 a 2 (hI h5 a1 2)) a1 3)) a 4 (hI (wI (wI h5 a 2 (hI h5 a1 2)) a 3 (hI (wI h5 a 2 (hI h5 a1 2)) a1 3)) a1 4)) q6 (Int32.toNatClampNeg 0) q7 (Int32.toNatClampNeg 0) (Int32.toNatClampNeg 10)) a1 = (0, 6) ∧ ∃ q8, hR (wC (wI (wI (wI h5 a 2 (hI h5 a1 2)) a 3 (hI (wI h5 a 2 (hI h5 a1 2)) a1 3)) a 4 (hI (wI (wI h5 a 2 (hI h5 a1 2)) a 3 (hI (wI h5 a 2 (hI h5 a1 2)) a1 3)) a1 4)) q6 (Int32.toNatClampNeg 0) q7 (Int32.toNatClampNeg 0) (Int32.toNatClampNeg 10)) a1 7 = some q8 ∧ hs (wC (wI (wI (wI h5 a 2 (hI h5 a1 2)) a 3 (hI (wI h5 a 2 (hI h5 a1 2)) a1 3)) a 4 (hI (wI (wI h5 a 2 (hI h5 a1 2)) a 3 (hI (wI h5 a 2 (hI h5 a1 2)) a1 3)) a1 4)) q6 (Int32.toNatClampNeg 0) q7 (Int32.toNatClampNeg 0) (Int32.toNatClampNeg 10)) a = (0, 6) ∧ ∃ q9, hR (wC (wI (wI (wI h5 a 2 (hI h5 a1 2)) a 3 (hI (wI h5 a 2 (hI h5 a1 2)) a1 3)) a 4 (hI (wI (wI h5 a 2 (hI h5 a1 2)) a 3 (hI (wI h5 a 2 (hI h5 a1 2)) a1 3)) a1 4)) q6 (Int32.toNatClampNeg 0) q7 (Int32.toNatClampNeg 0) (Int32.toNatClampNeg 10)) a 7 = some q9 ∧ ((hs (wC (wI (wI (wI h5 a 2 (hI h5 a1 2)) a 3 (hI (wI h5 a 2 (hI h5 a1 2)) a1 3)) a 4 (hI (wI (wI h5 a 2 (hI h5 a1 2)) a 3 (hI (wI h5 a 2 (hI h5 a1 2)) a1 3)) a1 4)) q6 (Int32.toNatClampNeg 0) q7 (Int32.toNatClampNeg 0) (Int32.toNatClampNeg 10)) q8).1 = 1 ∧ (hs (wC (wI (wI (wI h5 a 2 (hI h5 a1 2)) a 3 (hI (wI h5 a 2 (hI h5 a1 2)) a1 3)) a 4 (hI (wI (wI h5 a 2 (hI h5 a1 2)) a 3 (hI (wI h5 a 2 (hI h5 a1 2)) a1 3)) a1 4)) q6 (Int32.toNatClampNeg 0) q7 (Int32.toNatClampNeg 0) (Int32.toNatClampNeg 10)) q9).1 = 1) ∧ (¬ (0 : Int32) < 0 ∧ ¬ (0 : Int32) < 0 ∧ ¬ (10 : Int32) < 0) ∧ (Int32.toNatClampNeg 0 + Int32.toNatClampNeg 10 ≤ (hs (wC (wI (wI (wI h5 a 2 (hI h5 a1 2)) a 3 (hI (wI h5 a 2 (hI h5 a1 2)) a1 3)) a 4 (hI (wI (wI h5 a 2 (hI h5 a1 2)) a 3 (hI (wI h5 a 2 (hI h5 a1 2)) a1 3)) a1 4)) q6 (Int32.toNatClampNeg 0) q7 (Int32.toNatClampNeg 0) (Int32.toNatClampNeg 10)) q8).2 ∧ Int32.toNatClampNeg 0 + Int32.toNatClampNeg 10 ≤ (hs (wC (wI (wI (wI h5 a 2 (hI h5 a1 2)) a 3 (hI (wI h5 a 2 (hI h5 a1 2)) a1 3)) a 4 (hI (wI (wI h5 a 2 (hI h5 a1 2)) a 3 (hI (wI h5 a 2 (hI h5 a1 2)) a1 3)) a1 4)) q6 (Int32.toNatClampNeg 0) q7 (Int32.toNatClampNeg 0) (Int32.toNatClampNeg 10)) q9).2) ∧ hs (wC (wC (wI (wI (wI h5 a 2 (hI h5 a1 2)) a 3 (hI (wI h5 a 2 (hI h5 a1 2)) a1 3)) a 4 (hI (wI (wI h5 a 2 (hI h5 a1 2)) a 3 (hI (wI h5 a 2 (hI h5 a1 2)) a1 3)) a1 4)) q6 (Int32.toNatClampNeg 0) q7 (Int32.toNatClampNeg 0) (Int32.toNatClampNeg 10)) q8 (Int32.toNatClampNeg 0) q9 (Int32.toNatClampNeg 0) (Int32.toNatClampNeg 10)) a1 = (0, 6) ∧ ∃ q10, hR (wC (wC (wI (wI (wI h5 a 2 (hI h5 a1 2)) a 3 (hI (wI h5 a 2 (hI h5 a1 2)) a1 3)) a 4 (hI (wI (wI h5 a 2 (hI h5 a1 2)) a 3 (hI (wI h5 a 2 (hI h5 a1 2)) a1 3)) a1 4)) q6 (Int32.toNatClampNeg 0) q7 (Int32.toNatClampNeg 0) (Int32.toNatClampNeg 10)) q8 (Int32.toNatClampNeg 0) q9 (Int32.toNatClampNeg 0) (Int32.toNatClampNeg 10)) a1 8 = some q10 ∧ hs (wC (wC (wI (wI (wI h5 a 2 (hI h5 a1 2)) a 3 (hI (wI h5 a 2 (hI h5 a1 2)) a1 3)) a 4 (hI (wI (wI h5 a 2 (hI h5 a1 2)) a 3 (hI (wI h5 a 2 (hI h5 a1 2)) a1 3)) a1 4)) q6 (Int32.toNatClampNeg 0) q7 (Int32.toNatClampNeg 0) (Int32.toNatClampNeg 10)) q8 (Int32.toNatClampNeg 0) q9 (Int32.toNatClampNeg 0) (Int32.toNatClampNeg 10)) a = (0, 6) ∧ ∃ q11, hR (wC (wC (wI (wI (wI h5 a 2 (hI h5 a1 2)) a 3 (hI (wI h5 a 2 (hI h5 a1 2)) a1 3)) a 4 (hI (wI (wI h5 a 2 (hI h5 a1 2)) a 3 (hI (wI h5 a 2 (hI h5 a1 2)) a1 3)) a1 4)) q6 (Int32.toNatClampNeg 0) q7 (Int32.toNatClampNeg 0) (Int32.toNatClampNeg 10)) q8 (Int32.toNatClampNeg 0) q9 (Int32.toNatClampNeg 0) (Int32.toNatClampNeg 10)) a 8 = some q11 ∧ ((hs (wC (wC (wI (wI (wI h5 a 2 (hI h5 a1 2)) a 3 (hI (wI h5 a 2 (hI h5 a1 2)) a1 3)) a 4 (hI (wI (wI h5 a 2 (hI h5 a1 2)) a 3 (hI (wI h5 a 2 (hI h5 a1 2)) a1 3)) a1 4)) q6 (Int32.toNatClampNeg 0) q7 (Int32.toNatClampNeg 0) (Int32.toNatClampNeg 10)) q8 (Int32.toNatClampNeg 0) q9 (Int32.toNatClampNeg 0) (Int32.toNatClampNeg 10)) q10).1 = 1 ∧ (hs (wC (wC (wI (wI (wI h5 a 2 (hI h5 a1 2)) a 3 (hI (wI h5 a 2 (hI h5 a1 2)) a1 3)) a 4 (hI (wI (wI h5 a 2 (hI h5 a1 2)) a 3 (hI (wI h5 a 2 (hI h5 a1 2)) a1 3)) a1 4)) q6 (Int32.toNatClampNeg 0) q7 (Int32.toNatClampNeg 0) (Int32.toNatClampNeg 10)) q8 (Int32.toNatClampNeg 0) q9 (Int32.toNatClampNeg 0) (Int32.toNatClampNeg 10)) q11).1 = 1) ∧ (¬ (0 : Int32) < 0 ∧ ¬ (0 : Int32) < 0 ∧ ¬ (10 : Int32) < 0) ∧ (Int32.toNatClampNeg 0 + Int32.toNatClampNeg 10 ≤ (hs (wC (wC (wI (wI (wI h5 a 2 (hI h5 a1 2)) a 3 (hI (wI h5 a 2 (hI h5 a1 2)) a1 3)) a 4 (hI (wI (wI h5 a 2 (hI h5 a1 2)) a 3 (hI (wI h5 a 2 (hI h5 a1 2)) a1 3)) a1 4)) q6 (Int32.toNatClampNeg 0) q7 (Int32.toNatClampNeg 0) (Int32.toNatClampNeg 10)) q8 (Int32.toNatClampNeg 0) q9 (Int32.toNatClampNeg 0) (Int32.toNatClampNeg 10)) q10).2 ∧ Int32.toNatClampNeg 0 + Int32.toNatClampNeg 10 ≤ (hs (wC (wC (wI (wI (wI h5 a 2 (hI h5 a1 2)) a 3 (hI (wI h5 a 2 (hI h5 a1 2)) a1 3)) a 4 (hI (wI (wI h5 a 2 (hI h5 a1 2)) a 3 (hI (wI h5 a 2 (hI h5 a1 2)) a1 3)) a1 4)) q6 (Int32.toNatClampNeg 0) q7 (Int32.toNatClampNeg 0) (Int32.toNatClampNeg 10)) q8 (Int32.toNatClampNeg 0) q9 (Int32.toNatClampNeg 0) (Int32.toNatClampNeg 10)) q11).2) ∧ Q none (wC (wC (wC (wI (wI (wI h5 a 2 (hI h5 a1 2)) a 3 (hI (wI h5 a 2 (hI h5 a1 2)) a1 3)) a 4 (hI (wI (wI h5 a 2 (hI h5 a1 2)) a 3 (hI (wI h5 a 2 (hI h5 a1 2)) a1 3)) a1 4)) q6 (Int32.toNatClampNeg 0) q7 (Int32.toNatClampNeg 0) (Int32.toNatClampNeg 10)) q8 (Int32.toNatClampNeg 0) q9 (Int32.toNatClampNeg 0) (Int32.toNatClampNeg 10)) q10 (Int32.toNatClampNeg 0) q11 (Int32.toNatClampNeg 0) (Int32.toNatClampNeg 10)))) :
    Ex X PG (d + 1) 166 0 [some (.ref a), some (.ref a1)] [] h Q := wpx_ok (cut := []) 46 d 166 0 _ _ _ _ w
theorem m166 {X : Cst} {d a w n b w' n' q : Nat} {h : AH} {Q : Post} (C : Lay h) (s : Sc3 a w n) (s' : Sc3 b w' n') (ne : ¬ a = b) (hd : 2 ≤ d) (hq : hR h b 0 = some q)
    (k : ∀ h', Fr (TSc a w n) (wR h a 0 (some q)) h' → fI h' a 2 = fI h b 2 → fI h' a 3 = fI h b 3 → (∀ pl S, (0 ≤ S 2 ∧ S 2 ≤ 4) → S 114 ≤ 10 → ScR h b w' n' pl S → ScR h' a w n pl S) → Q none h') : Ex X PG d 166 0 [some (.ref a), some (.ref b)] [] h Q := by
  obtain ⟨d, rfl⟩ : ∃ e, d = e + 1 := ⟨d - 1, by omega⟩
  have C1 : Lay (wR h a 0 (some q)) := Lay_wSc C s
  have A1 := ScAt_of C1 s
  have B1 := ScAt_of C1 s'
  have B0 := ScAt_of C s'
  have A0 := ScAt_of C s
  have sep : ¬ a = b ∧ ¬ w = w' ∧ (w + 5 < w' ∨ w' + 5 < w) ∧ (n + 2 < n' ∨ n' + 2 < n) ∧ (a < w' ∨ w' + 5 < a) ∧ (b < w ∨ w + 5 < b) ∧ (n + 2 < w' ∨ w' + 5 < n) ∧ (n' + 2 < w ∨ w + 5 < n') ∧ (a < n' ∨ n' + 2 < a) ∧ (b < n ∨ n + 2 < b) ∧ (a < w ∨ w + 5 < a) ∧ (a < n ∨ n + 2 < a) ∧ (n + 2 < w ∨ w + 5 < n) ∧ (b < n' ∨ n' + 2 < b) ∧ (52 ≤ a ∧ a ≤ 113) ∧ (64 ≤ w ∧ w ≤ 108) ∧ (64 ≤ n ∧ n ≤ 111) ∧ (a = 52 ∨ 64 ≤ a) := by
    unfold Sc3 at s s'; omega
  obtain ⟨z1, z2, z3, z4, z5, z6, z7, z8, z9, z10, z11, z12, z13, z14, z15, z16, z17, z18⟩ := sep
  refine v166_0 ⟨B0.1, q, hq, A0.1, A1.1, w, A1.2.1, B1.1, w', B1.2.1, A1.2.2.1.1, ?_⟩
  refine m88 C1 A1.2.2.1 B1.2.2.1 (by omega) (by omega) (fun h5 s5 p5 => ?_)
  have C5 := Lay_SH s5 C1
  have A5 := ScAt_of C5 s
  have B5 := ScAt_of C5 s'
  obtain ⟨a1, a2, a3, ⟨a4, a5, a6⟩, a7, a8, a9⟩ := A5
  obtain ⟨b1, b2, b3, ⟨b4, b5, b6⟩, b7, b8, b9⟩ := B5
  refine ⟨rfl, b1, a1, b1, a1, b1, a1, b1, n', b4, a1, n, a4, ⟨congrArg Prod.fst b7, congrArg Prod.fst a7⟩, by decide, ⟨cpo b7 (by decide), cpo a7 (by decide)⟩, b1, n' + 1, b5, a1, n + 1, a5, ⟨congrArg Prod.fst b8, congrArg Prod.fst a8⟩, by decide, ⟨cpo b8 (by decide), cpo a8 (by decide)⟩, b1, n' + 2, b6, a1, n + 2, a6, ⟨congrArg Prod.fst b9, congrArg Prod.fst a9⟩, by decide, ⟨cpo b9 (by decide), cpo a9 (by decide)⟩, ?_⟩
  simp only [wI_wF]
  show Q none (wCp (wCp (wCp (wF (wF (wF h5 a 2 (fI h5 b 2)) a 3 (fI (wF h5 a 2 (fI h5 b 2)) b 3)) a 4 (fI (wF (wF h5 a 2 (fI h5 b 2)) a 3 (fI (wF h5 a 2 (fI h5 b 2)) b 3)) b 4)) n' 0 n 0 10) (n' + 1) 0 (n + 1) 0 10) (n' + 2) 0 (n + 2) 0 10)
  have nb : ¬ b = a := fun z => ne z.symm
  rw [fI_wF_ne nb, fI_wF_ne nb, fI_wF_ne nb]
  have F5 : Fr (TSc a w n) (wR h a 0 (some q)) h5 := p5.1.mo fun c k z => by unfold TSc; omega
  have F : Fr (TSc a w n) (wR h a 0 (some q)) (wCp (wCp (wCp (wF (wF (wF h5 a 2 (fI h5 b 2)) a 3 (fI h5 b 3)) a 4 (fI h5 b 4)) n' 0 n 0 10) (n' + 1) 0 (n + 1) 0 10) (n' + 2) 0 (n + 2) 0 10) :=
    (((((F5.wF (by unfold TSc; omega)).wF (by unfold TSc; omega)).wF (by unfold TSc; omega)).wCp (fun _ => by unfold TSc; omega)).wCp (fun _ => by unfold TSc; omega)).wCp (fun _ => by unfold TSc; omega)
  have fb : ∀ k, fI h5 b k = fI h b k := fun k => F5.f b k (fun z => by unfold TSc at z; omega)
  have nb5 : ∀ i, i ≤ 2 → aI h5 (n' + i) = aI h (n' + i) := fun i hi => p5.1.a (n' + i) (fun k z => by omega)
  have f2 : fI (wCp (wCp (wCp (wF (wF (wF h5 a 2 (fI h5 b 2)) a 3 (fI h5 b 3)) a 4 (fI h5 b 4)) n' 0 n 0 10) (n' + 1) 0 (n + 1) 0 10) (n' + 2) 0 (n + 2) 0 10) a = fI (wF (wF (wF h5 a 2 (fI h5 b 2)) a 3 (fI h5 b 3)) a 4 (fI h5 b 4)) a := by
    rw [fI_wCp_ne (by omega), fI_wCp_ne (by omega), fI_wCp_ne (by omega)]
  refine k _ F ?_ ?_ (fun pl S hS h10 R => ⟨R.1, ?_, ?_, ?_, fun k k0 k1 => ⟨?_, ?_, ?_⟩⟩)
  · rw [f2, fI_wF_nk (by decide), fI_wF_nk (by decide), fI_wF_eq (fI_rg _ _ _)]; exact fb 2
  · rw [f2, fI_wF_nk (by decide), fI_wF_eq (fI_rg _ _ _)]; exact fb 3
  · exact PlanRep.fr (h := wR h a 0 (some q)) R.2.1 F (fun c k z => by have := R.1; unfold TSc at z; omega)
  · have w5 : WorldRep h5 w S := p5.2.rep (show WorldRep (wR h a 0 (some q)) w' S from R.2.2.1) hS
    refine w5.fr (T := fun c k => c = a ∨ (n ≤ c ∧ c ≤ n + 2)) ?_ (fun c k z => by omega)
    exact ((((((Fr.rf (T := fun c k => c = a ∨ (n ≤ c ∧ c ≤ n + 2))).wF (by omega)).wF (by omega)).wF (by omega)).wCp (fun _ => by omega)).wCp (fun _ => by omega)).wCp (fun _ => by omega)
  · rw [f2, fI_wF_eq (fI_rg _ _ _), fb]; exact R.2.2.2.1
  · rw [aI_wCp_ne (by omega), aI_wCp_ne (by omega), aI_wCp (by decide) ⟨k0, by omega⟩, aI_wF_ne (by omega), aI_wF_ne (by omega), aI_wF_ne (by omega), show aI h5 n' = aI h n' from nb5 0 (by omega)]
    exact (R.2.2.2.2 k k0 k1).1
  · rw [aI_wCp_ne (by omega), aI_wCp (by decide) ⟨k0, by omega⟩, aI_wCp_ne (by omega), aI_wF_ne (by omega), aI_wF_ne (by omega), aI_wF_ne (by omega), nb5 1 (by omega)]
    exact (R.2.2.2.2 k k0 k1).2.1
  · rw [aI_wCp (by decide) ⟨k0, by omega⟩, aI_wCp_ne (by omega), aI_wCp_ne (by omega), aI_wF_ne (by omega), aI_wF_ne (by omega), aI_wF_ne (by omega), nb5 2 (by omega)]
    exact (R.2.2.2.2 k k0 k1).2.2
theorem Lay_r73 {h : AH} {i : Int} (C : Lay h) (hi : 0 ≤ i ∧ i < 4) : hR h 73 (Int32.toNatClampNeg (J i)) = some (74 + 10 * Int.toNat i) := by
  have : i = 0 ∨ i = 1 ∨ i = 2 ∨ i = 3 := by omega
  rcases this with rfl | rfl | rfl | rfl
  · exact lr73_0 C
  · exact lr73_1 C
  · exact lr73_2 C
  · exact lr73_3 C
theorem Sc3_im {i : Int} (hi : 0 ≤ i ∧ i < 4) : Sc3 (74 + 10 * Int.toNat i) (75 + 10 * Int.toNat i) (81 + 10 * Int.toNat i) := by unfold Sc3; omega
def TIm (i : Int) (c k : Nat) : Prop := TSc (74 + 10 * Int.toNat i) (75 + 10 * Int.toNat i) (81 + 10 * Int.toNat i) c k ∨ (c = 74 + 10 * Int.toNat i ∧ k = 5)
theorem v165_0 {X : Cst} {d : Nat} {a : Nat} {x1 : Int32} {h : AH} {Q : Post}
  (w : ((x1 < 0 →
      Q (some (.int (-1))) h) ∧
    (¬ (x1 < 0) →
      ((x1 < 4 →
        hs h a = (0, 10) ∧ ∃ q1, hR h a 6 = some q1 ∧ 5 ≤ (hs h q1).1 ∧ ix x1 (hs h q1).2 ∧ ∃ q2, hR h q1 (Int32.toNatClampNeg x1) = some q2 ∧ hs h a = (0, 10) ∧ ∃ q3, hR h a 5 = some q3 ∧ hs h q2 = (0, 6) ∧ Ex X PG d 166 0 [some (.ref q2), some (.ref q3)] [] h (fun v4 h5 => v4 = none ∧
          hs h5 a = (0, 10) ∧ ∃ q6, hR h5 a 6 = some q6 ∧ 5 ≤ (hs h5 q6).1 ∧ ix x1 (hs h5 q6).2 ∧ ∃ q7, hR h5 q6 (Int32.toNatClampNeg x1) = some q7 ∧ hs h5 q7 = (0, 6) ∧ ((1 : Int32) = 0 ∨ (1 : Int32) = 1) ∧ hs (wI h5 q7 5 1) a = (0, 10) ∧ ∃ q8, hR (wI h5 q7 5 1) a 5 = some q8 ∧ hs (wI h5 q7 5 1) q8 = (0, 6) ∧ ∃ q9, hR (wI h5 q7 5 1) q8 1 = some q9 ∧ hs (wI h5 q7 5 1) q9 = (0, 9) ∧ Q (some (.int (hI (wI h5 q7 5 1) q9 5))) (wI h5 q7 5 1))) ∧
      (¬ (x1 < 4) →
        Q (some (.int (-1))) h))))) :
    Ex X PG (d + 1) 165 0 [some (.ref a), some (.int x1)] [] h Q := wpx_ok (cut := []) 23 d 165 0 _ _ _ _ w
theorem m165 {X : Cst} {d : Nat} {pl : Nat} {x : Int} {S : Int → Int} {h : AH} {Q : Post} (C : Lay h) (P : hR h 52 0 = some pl) (hd : 3 ≤ d) (R : CS h pl S) (W : WF 999 S) (g1 : -2147483648 ≤ x ∧ x < 2147483648)
    (k0 : ¬ (0 ≤ x ∧ x ≤ 3) → Q (some (.int (J (-1)))) h)
    (k : (0 ≤ x ∧ x ≤ 3) → ∀ h', Fr (TIm x) (wR h (74 + 10 * Int.toNat x) 0 (some pl)) h' → fI h' (74 + 10 * Int.toNat x) 2 = fI h 52 2 → fI h' (74 + 10 * Int.toNat x) 3 = fI h 52 3 → fI h' (74 + 10 * Int.toNat x) 5 = 1 → ScR h' (74 + 10 * Int.toNat x) (75 + 10 * Int.toNat x) (81 + 10 * Int.toNat x) pl S → Q (some (.int (J (S 3)))) h') : Ex X PG d 165 0 [some (.ref 0), some (.int (J x))] [] h Q := by
  obtain ⟨d, rfl⟩ : ∃ e, d = e + 1 := ⟨d - 1, by omega⟩
  have b := W.1
  unfold WFb at b
  have nn := W.2.2.2.2.2.1
  refine v165_0 ⟨fun c => ?_, fun c => ⟨fun c2 => ?_, fun c2 => ?_⟩⟩
  · rw [show (0 : Int32) = J 0 from rfl, Jlt g1 (by decide)] at c; exact k0 (by omega)
  · rw [show (0 : Int32) = J 0 from rfl, Jlt g1 (by decide)] at c
    rw [show (4 : Int32) = J 4 from rfl, Jlt g1 (by decide)] at c2
    have hx : 0 ≤ x ∧ x < 4 := by omega
    have s := Sc3_im hx
    refine ⟨ls0 C, 73, lr0_6 C, h5o (ls73 C) (by decide), ixs (ls73 C) hx (by decide), _, Lay_r73 C hx, ls0 C, 52, lr0_5 C, (ScAt_of C s).1, ?_⟩
    refine m166 C s (Or.inl ⟨rfl, rfl, rfl⟩) (by omega) (by omega) P (fun h5 F5 e2 e3 e4 => ?_)
    have C5 : Lay h5 := F5.C (Lay_wSc C s)
    have r5 := e4 pl S (by omega) nn.2.1 R
    refine ⟨rfl, ls0 C5, 73, lr0_6 C5, h5o (ls73 C5) (by decide), ixs (ls73 C5) hx (by decide), _, Lay_r73 C5 hx, (ScAt_of C5 s).1, by decide, ls0 C5, 52, lr0_5 C5, ls52 C5, 64, lr52_1 C5, ls64 C5, ?_⟩
    rw [wI_wF]
    show Q (some (.int (hI (wF h5 (74 + 10 * Int.toNat x) 5 1) 64 5))) (wF h5 (74 + 10 * Int.toNat x) 5 1)
    have e5 : fI (wF h5 (74 + 10 * Int.toNat x) 5 1) 64 5 = S 3 := by
      rw [fI_wF_ne (by omega), F5.f 64 5 (fun z => by unfold TSc at z; omega)]
      exact R.2.2.1.2.2
    rw [show hI (wF h5 (74 + 10 * Int.toNat x) 5 1) 64 5 = J (fI (wF h5 (74 + 10 * Int.toNat x) 5 1) 64 5) from (J_toInt _).symm, e5]
    have FF : Fr (TIm x) h5 (wF h5 (74 + 10 * Int.toNat x) 5 1) := (Fr.rf (T := TIm x)).wF (Or.inr ⟨rfl, rfl⟩)
    have F1 : Fr (fun c k => c = 74 + 10 * Int.toNat x ∧ k = 5) h5 (wF h5 (74 + 10 * Int.toNat x) 5 1) := (Fr.rf (T := fun c k => c = 74 + 10 * Int.toNat x ∧ k = 5)).wF ⟨rfl, rfl⟩
    refine k (by omega) _ ((F5.mo fun c k z => Or.inl z).tr FF) ?_ ?_ ?_ ⟨r5.1, r5.2.1.fr F1 (fun c k z => by have := r5.1; omega), r5.2.2.1.fr F1 (fun c k z => by omega), ?_, ?_⟩
    · rw [fI_wF_nk (by decide)]; exact e2
    · rw [fI_wF_nk (by decide)]; exact e3
    · rw [fI_wF_eq (by decide)]
    · rw [fI_wF_nk (by decide)]; exact r5.2.2.2.1
    · rw [aI_wF_ne (by omega), aI_wF_ne (by omega), aI_wF_ne (by omega)]; exact r5.2.2.2.2
  · rw [show (4 : Int32) = J 4 from rfl, Jlt g1 (by decide)] at c2; exact k0 (by omega)
def TBk (c k : Nat) : Prop := TSc 52 64 70 c k ∨ (c = 0 ∧ k = 14)
theorem v167_0 {X : Cst} {d : Nat} {a : Nat} {x1 : Int32} {h : AH} {Q : Post}
  (w : ((x1 < 0 →
      Q (some (.int (-1))) h) ∧
    (¬ (x1 < 0) →
      ((4 ≤ x1 →
        Q (some (.int (-1))) h) ∧
      (¬ (4 ≤ x1) →
        hs h a = (0, 10) ∧ ∃ q1, hR h a 6 = some q1 ∧ 5 ≤ (hs h q1).1 ∧ ix x1 (hs h q1).2 ∧ ∃ q2, hR h q1 (Int32.toNatClampNeg x1) = some q2 ∧ hs h q2 = (0, 6) ∧ ((¬ hI h q2 5 = 0 →
          hs h a = (0, 10) ∧ ∃ q3, hR h a 5 = some q3 ∧ hs h a = (0, 10) ∧ ∃ q4, hR h a 6 = some q4 ∧ 5 ≤ (hs h q4).1 ∧ ix x1 (hs h q4).2 ∧ ∃ q5, hR h q4 (Int32.toNatClampNeg x1) = some q5 ∧ hs h q3 = (0, 6) ∧ Ex X PG d 166 0 [some (.ref q3), some (.ref q5)] [] h (fun v6 h7 => v6 = none ∧
            hs h7 a = (0, 10) ∧ hs (wI h7 a 14 0) a = (0, 10) ∧ ∃ q8, hR (wI h7 a 14 0) a 5 = some q8 ∧ hs (wI h7 a 14 0) q8 = (0, 6) ∧ ∃ q9, hR (wI h7 a 14 0) q8 1 = some q9 ∧ hs (wI h7 a 14 0) q9 = (0, 9) ∧ Q (some (.int (hI (wI h7 a 14 0) q9 5))) (wI h7 a 14 0))) ∧
        (¬ (¬ hI h q2 5 = 0) →
          Q (some (.int (-1))) h))))))) :
    Ex X PG (d + 1) 167 0 [some (.ref a), some (.int x1)] [] h Q := wpx_ok (cut := []) 26 d 167 0 _ _ _ _ w
theorem m167 {X : Cst} {d : Nat} {q : Nat} {x : Int} {S : Int → Int} {h : AH} {Q : Post} (C : Lay h) (hd : 3 ≤ d) (g1 : -2147483648 ≤ x ∧ x < 2147483648)
    (H : (0 ≤ x ∧ x ≤ 3) → ¬ fI h (74 + 10 * Int.toNat x) 5 = 0 → hR h (74 + 10 * Int.toNat x) 0 = some q ∧ ScR h (74 + 10 * Int.toNat x) (75 + 10 * Int.toNat x) (81 + 10 * Int.toNat x) q S ∧ (0 ≤ S 2 ∧ S 2 ≤ 4) ∧ S 114 ≤ 10)
    (k0 : ¬ ((0 ≤ x ∧ x ≤ 3) ∧ ¬ fI h (74 + 10 * Int.toNat x) 5 = 0) → Q (some (.int (J (-1)))) h)
    (k : ((0 ≤ x ∧ x ≤ 3) ∧ ¬ fI h (74 + 10 * Int.toNat x) 5 = 0) → ∀ h', Fr TBk (wR h 52 0 (some q)) h' → fI h' 52 2 = fI h (74 + 10 * Int.toNat x) 2 → fI h' 52 3 = fI h (74 + 10 * Int.toNat x) 3 → fI h' 0 14 = 0 → CS h' q S → Q (some (.int (J (S 3)))) h') : Ex X PG d 167 0 [some (.ref 0), some (.int (J x))] [] h Q := by
  obtain ⟨d, rfl⟩ : ∃ e, d = e + 1 := ⟨d - 1, by omega⟩
  refine v167_0 ⟨fun c => ?_, fun c => ⟨fun c2 => ?_, fun c2 => ?_⟩⟩
  · rw [show (0 : Int32) = J 0 from rfl, Jlt g1 (by decide)] at c; exact k0 (by omega)
  · rw [show (4 : Int32) = J 4 from rfl, Jle (by decide) g1] at c2; exact k0 (by omega)
  · rw [show (0 : Int32) = J 0 from rfl, Jlt g1 (by decide)] at c
    rw [show (4 : Int32) = J 4 from rfl, Jle (by decide) g1] at c2
    have hx : 0 ≤ x ∧ x < 4 := by omega
    have s := Sc3_im hx
    have z0 : hI h (74 + 10 * Int.toNat x) 5 = 0 ↔ fI h (74 + 10 * Int.toNat x) 5 = 0 := by
      rw [show hI h (74 + 10 * Int.toNat x) 5 = J (fI h (74 + 10 * Int.toNat x) 5) from (J_toInt _).symm, show (0 : Int32) = J 0 from rfl, Jeq (fI_rg _ _ _) (by decide)]
    refine ⟨ls0 C, 73, lr0_6 C, h5o (ls73 C) (by decide), ixs (ls73 C) hx (by decide), _, Lay_r73 C hx, (ScAt_of C s).1, fun c3 => ?_, fun c3 => k0 (fun z => c3 (fun y => z.2 (z0.mp y)))⟩
    have c4 : ¬ fI h (74 + 10 * Int.toNat x) 5 = 0 := fun y => c3 (z0.mpr y)
    obtain ⟨hq, r, b2, b10⟩ := H (by omega) c4
    refine ⟨ls0 C, 52, lr0_5 C, ls0 C, 73, lr0_6 C, h5o (ls73 C) (by decide), ixs (ls73 C) hx (by decide), _, Lay_r73 C hx, ls52 C, ?_⟩
    refine m166 C (Or.inl ⟨rfl, rfl, rfl⟩) s (by omega) (by omega) hq (fun h7 F7 e2 e3 e4 => ?_)
    have C7 : Lay h7 := F7.C (Lay_wSc C (Or.inl ⟨rfl, rfl, rfl⟩))
    have r7 := e4 q S b2 b10 r
    refine ⟨rfl, ls0 C7, ls0 C7, 52, lr0_5 C7, ls52 C7, 64, lr52_1 C7, ls64 C7, ?_⟩
    rw [wI_wF]
    show Q (some (.int (hI (wF h7 0 14 0) 64 5))) (wF h7 0 14 0)
    have e5 : fI (wF h7 0 14 0) 64 5 = S 3 := by
      rw [fI_wF_ne (by decide)]; exact r7.2.2.1.2.2
    rw [show hI (wF h7 0 14 0) 64 5 = J (fI (wF h7 0 14 0) 64 5) from (J_toInt _).symm, e5]
    have FF : Fr TBk h7 (wF h7 0 14 0) := (Fr.rf (T := TBk)).wF (Or.inr ⟨rfl, rfl⟩)
    have F1 : Fr (fun c k => c = 0 ∧ k = 14) h7 (wF h7 0 14 0) := (Fr.rf (T := fun c k => c = 0 ∧ k = 14)).wF ⟨rfl, rfl⟩
    refine k ⟨by omega, c4⟩ _ ((F7.mo fun c k z => Or.inl z).tr FF) ?_ ?_ ?_ ⟨r7.1, r7.2.1.fr F1 (fun c k z => by have := r7.1; omega), r7.2.2.1.fr F1 (fun c k z => by omega), ?_, ?_⟩
    · rw [fI_wF_ne (by decide)]; exact e2
    · rw [fI_wF_ne (by decide)]; exact e3
    · rw [fI_wF_eq (by decide)]
    · rw [fI_wF_ne (by decide)]; exact r7.2.2.2.1
    · rw [aI_wF_ne (by decide), aI_wF_ne (by decide), aI_wF_ne (by decide)]; exact r7.2.2.2.2
