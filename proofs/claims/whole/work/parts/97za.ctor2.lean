/-! THE HEAP THAT BOTH CONSTRUCTORS MAKE. -/
theorem tcM_4 : Int32.toNatClampNeg 4 = 4 := by decide
theorem tcM_6 : Int32.toNatClampNeg 6 = 6 := by decide
theorem tcM_20 : Int32.toNatClampNeg 20 = 20 := by decide
theorem tcM_32 : Int32.toNatClampNeg 32 = 32 := by decide
theorem HG.n' {h : AH} {s : ST} {n : Nat} (H : HG h s) (e : s.1 = n) : hn h = n := H.1.trans e
theorem HG.s' {h : AH} {s : ST} {c : Nat} {t : Nat × Nat} (H : HG h s) (e : s.2.1 c = t) : hs h c = t := (congrFun H.2.1 c).trans e
theorem HG.r' {h : AH} {s : ST} {c k : Nat} {v : Option Nat} (H : HG h s) (e : s.2.2.1 c k = v) : hR h c k = v := (congrFun (congrFun H.2.2.1 c) k).trans e
def s00 : ST := (0, fun _ => (0, 999), fun _ _ => none, fun _ _ => some 0, fun _ _ => some 0, 0)
theorem HG_00 : HG h00 s00 := ⟨rfl, rfl, rfl, fun _ _ v e => by cases e; rfl, fun _ _ v e => by cases e; rfl, rfl⟩
def k0 : ST := sA s00 (0, 10) 16
def k1 : ST := sR (sX (sA k0 (0, 8) 7) 1 0 3 400 400) 0 0 (some 1)
def k2 : ST := sR (c2 3 1 (sA k1 (0, 0) 3)) 0 1 (some 3)
def k3 : ST := sX k2 0 3 9 6 6
def lpR : Nat → ST
  | 0 => k3
  | i + 1 => sR (c5 (16 + 5 * i) (sA (lpR i) (0, 4) 6)) 15 i (some (16 + 5 * i))
def k5 : ST := sR (sR (sR (sA (lpR 6) (0, 5) 3) 46 0 (some 1)) 46 1 (some 16)) 0 2 (some 46)
def k6 : ST := sR (c5 47 (sA k5 (0, 4) 6)) 0 4 (some 47)
def k7 : ST := c7 47 k6
def k9 : ST := sR (c11 52 53 (cPlan 53 (sA (sA k7 (0, 6) 9) (0, 2) 16))) 0 5 (some 52)
def k10 : ST := sX k9 0 6 11 4 4
def lpI : Nat → ST
  | 0 => k10
  | i + 1 => sR (c11 (74 + 10 * i) 53 (sA (lpI i) (0, 6) 9)) 73 i (some (74 + 10 * i))
def k12 : ST := sR (c12 114 (sA (lpI 4) (0, 9) 6)) 0 7 (some 114)
def k13 : ST := sX k12 0 8 14 20 20
def lpP : Nat → ST
  | 0 => k13
  | i + 1 => sR (c12 (121 + 6 * i) (sA (lpP i) (0, 9) 6)) 120 i (some (121 + 6 * i))
def k15 : ST := sR (c13 241 (sA (lpP 20) (0, 1) 7)) 0 9 (some 241)
def k16 : ST := sR (c14 247 53 (sA k15 (0, 7) 8)) 0 10 (some 247)
def k17 : ST := sR (c16 250 53 (sA k16 (0, 3) 10)) 0 11 (some 250)
def k18 : ST := sX k17 0 12 1 32 32
theorem v0_0 {X : Cst} {d : Nat} {a : Nat} {h : AH} {Q : Post}
  (w : Ex X PG d 1 0 [some (.ref (hn h))] [] (aN h (0, 8) 7) (fun v1 h2 => v1 = none ∧
      hs h2 a = (0, 10) ∧ Ex X PG (d + 1) 0 15 [some (.ref a), none] [] (wR h2 a 0 (some (hn h))) Q)) :
    Ex X PG (d + 1) 0 0 [some (.ref a), none] [] h Q := wpx_ok (cut := [15, 30, 41, 66, 87, 98, 105, 123, 133, 164, 175, 186, 211, 222, 240, 258]) 7 d 0 0 _ _ _ _ w
theorem v0_15 {X : Cst} {d : Nat} {a : Nat} {h : AH} {Q : Post}
  (w : hs (aN h (0, 0) 3) a = (0, 10) ∧ ∃ q1, hR (aN h (0, 0) 3) a 0 = some q1 ∧ Ex X PG d 2 0 [some (.ref (hn h)), some (.ref q1)] [] (aN h (0, 0) 3) (fun v2 h3 => v2 = none ∧
      hs h3 a = (0, 10) ∧ Ex X PG (d + 1) 0 30 [some (.ref a), none] [] (wR h3 a 1 (some (hn h))) Q)) :
    Ex X PG (d + 1) 0 15 [some (.ref a), none] [] h Q := wpx_ok (cut := [15, 30, 41, 66, 87, 98, 105, 123, 133, 164, 175, 186, 211, 222, 240, 258]) 7 d 0 15 _ _ _ _ w
theorem v0_30 {X : Cst} {d : Nat} {a : Nat} {h : AH} {Q : Post}
  (w : ¬ (6 : Int32) < 0 ∧ Int32.toNatClampNeg 6 ≤ 1000000 ∧ hs (aN h (5 + 4, Int32.toNatClampNeg 6) (Int32.toNatClampNeg 6)) a = (0, 10) ∧ Ex X PG (d + 1) 0 41 [some (.ref a), some (.int 0)] [] (wR (aN h (5 + 4, Int32.toNatClampNeg 6) (Int32.toNatClampNeg 6)) a 3 (some (hn h))) Q) :
    Ex X PG (d + 1) 0 30 [some (.ref a), none] [] h Q := wpx_ok (cut := [15, 30, 41, 66, 87, 98, 105, 123, 133, 164, 175, 186, 211, 222, 240, 258]) 6 d 0 30 _ _ _ _ w
theorem v0_41 {X : Cst} {d : Nat} {a : Nat} {x1 : Int32} {h : AH} {Q : Post}
  (w : ((6 ≤ x1 →
      Ex X PG (d + 1) 0 66 [some (.ref a), some (.int x1)] [] h Q) ∧
    (¬ (6 ≤ x1) →
      hs h a = (0, 10) ∧ ∃ q1, hR h a 3 = some q1 ∧ Ex X PG d 5 0 [some (.ref (hn h))] [] (aN h (0, 4) 6) (fun v2 h3 => v2 = none ∧
        (∃ c, c < 100 ∧ (hs h3 q1).1 = 5 + c ∧ hs h3 (hn h) = (0, c)) ∧ ix x1 (hs h3 q1).2 ∧ Ex X PG (d + 1) 0 41 [some (.ref a), some (.int (x1 + 1))] [] (wR h3 q1 (Int32.toNatClampNeg x1) (some (hn h))) Q)))) :
    Ex X PG (d + 1) 0 41 [some (.ref a), some (.int x1)] [] h Q := wpx_ok (cut := [15, 30, 41, 66, 87, 98, 105, 123, 133, 164, 175, 186, 211, 222, 240, 258]) 12 d 0 41 _ _ _ _ w
theorem v0_66 {X : Cst} {d : Nat} {a : Nat} {x1 : Int32} {h : AH} {Q : Post}
  (w : hs (aN h (0, 5) 3) a = (0, 10) ∧ ∃ q1, hR (aN h (0, 5) 3) a 0 = some q1 ∧ hs (aN h (0, 5) 3) a = (0, 10) ∧ ∃ q2, hR (aN h (0, 5) 3) a 3 = some q2 ∧ 5 ≤ (hs (aN h (0, 5) 3) q2).1 ∧ ix 0 (hs (aN h (0, 5) 3) q2).2 ∧ ∃ q3, hR (aN h (0, 5) 3) q2 (Int32.toNatClampNeg 0) = some q3 ∧ Ex X PG d 6 0 [some (.ref (hn h)), some (.ref q1), some (.ref q3)] [] (aN h (0, 5) 3) (fun v4 h5 => v4 = none ∧
      hs h5 a = (0, 10) ∧ Ex X PG (d + 1) 0 87 [some (.ref a), some (.int x1)] [] (wR h5 a 2 (some (hn h))) Q)) :
    Ex X PG (d + 1) 0 66 [some (.ref a), some (.int x1)] [] h Q := wpx_ok (cut := [15, 30, 41, 66, 87, 98, 105, 123, 133, 164, 175, 186, 211, 222, 240, 258]) 11 d 0 66 _ _ _ _ w
theorem v0_87 {X : Cst} {d : Nat} {a : Nat} {x1 : Int32} {h : AH} {Q : Post}
  (w : Ex X PG d 5 0 [some (.ref (hn h))] [] (aN h (0, 4) 6) (fun v1 h2 => v1 = none ∧
      hs h2 a = (0, 10) ∧ Ex X PG (d + 1) 0 98 [some (.ref a), some (.int x1)] [] (wR h2 a 4 (some (hn h))) Q)) :
    Ex X PG (d + 1) 0 87 [some (.ref a), some (.int x1)] [] h Q := wpx_ok (cut := [15, 30, 41, 66, 87, 98, 105, 123, 133, 164, 175, 186, 211, 222, 240, 258]) 5 d 0 87 _ _ _ _ w
theorem v0_98 {X : Cst} {d : Nat} {a : Nat} {x1 : Int32} {h : AH} {Q : Post}
  (w : hs h a = (0, 10) ∧ ∃ q1, hR h a 4 = some q1 ∧ hs h q1 = (0, 4) ∧ Ex X PG d 7 0 [some (.ref q1)] [] h (fun v2 h3 => v2 = none ∧
      Ex X PG d 3 0 [some (.ref (hn (aN h3 (0, 6) 9)))] [] (aN (aN h3 (0, 6) 9) (0, 2) 16) (fun v4 h5 => v4 = none ∧
        Ex X PG d 11 0 [some (.ref (hn h3)), some (.ref (hn (aN h3 (0, 6) 9)))] [] h5 (fun v6 h7 => v6 = none ∧
          hs h7 a = (0, 10) ∧ Ex X PG (d + 1) 0 123 [some (.ref a), some (.int x1)] [] (wR h7 a 5 (some (hn h3))) Q)))) :
    Ex X PG (d + 1) 0 98 [some (.ref a), some (.int x1)] [] h Q := wpx_ok (cut := [15, 30, 41, 66, 87, 98, 105, 123, 133, 164, 175, 186, 211, 222, 240, 258]) 11 d 0 98 _ _ _ _ w
theorem v0_123 {X : Cst} {d : Nat} {a : Nat} {x1 : Int32} {h : AH} {Q : Post}
  (w : ¬ (4 : Int32) < 0 ∧ Int32.toNatClampNeg 4 ≤ 1000000 ∧ hs (aN h (5 + 6, Int32.toNatClampNeg 4) (Int32.toNatClampNeg 4)) a = (0, 10) ∧ Ex X PG (d + 1) 0 133 [some (.ref a), some (.int 0)] [] (wR (aN h (5 + 6, Int32.toNatClampNeg 4) (Int32.toNatClampNeg 4)) a 6 (some (hn h))) Q) :
    Ex X PG (d + 1) 0 123 [some (.ref a), some (.int x1)] [] h Q := wpx_ok (cut := [15, 30, 41, 66, 87, 98, 105, 123, 133, 164, 175, 186, 211, 222, 240, 258]) 6 d 0 123 _ _ _ _ w
theorem v0_133 {X : Cst} {d : Nat} {a : Nat} {x1 : Int32} {h : AH} {Q : Post}
  (w : ((4 ≤ x1 →
      Ex X PG (d + 1) 0 164 [some (.ref a), some (.int x1)] [] h Q) ∧
    (¬ (4 ≤ x1) →
      hs h a = (0, 10) ∧ ∃ q1, hR h a 6 = some q1 ∧ hs (aN h (0, 6) 9) a = (0, 10) ∧ ∃ q2, hR (aN h (0, 6) 9) a 5 = some q2 ∧ hs (aN h (0, 6) 9) q2 = (0, 6) ∧ ∃ q3, hR (aN h (0, 6) 9) q2 0 = some q3 ∧ Ex X PG d 11 0 [some (.ref (hn h)), some (.ref q3)] [] (aN h (0, 6) 9) (fun v4 h5 => v4 = none ∧
        (∃ c, c < 100 ∧ (hs h5 q1).1 = 5 + c ∧ hs h5 (hn h) = (0, c)) ∧ ix x1 (hs h5 q1).2 ∧ Ex X PG (d + 1) 0 133 [some (.ref a), some (.int (x1 + 1))] [] (wR h5 q1 (Int32.toNatClampNeg x1) (some (hn h))) Q)))) :
    Ex X PG (d + 1) 0 133 [some (.ref a), some (.int x1)] [] h Q := wpx_ok (cut := [15, 30, 41, 66, 87, 98, 105, 123, 133, 164, 175, 186, 211, 222, 240, 258]) 15 d 0 133 _ _ _ _ w
theorem v0_164 {X : Cst} {d : Nat} {a : Nat} {x1 : Int32} {h : AH} {Q : Post}
  (w : Ex X PG d 12 0 [some (.ref (hn h))] [] (aN h (0, 9) 6) (fun v1 h2 => v1 = none ∧
      hs h2 a = (0, 10) ∧ Ex X PG (d + 1) 0 175 [some (.ref a), some (.int x1)] [] (wR h2 a 7 (some (hn h))) Q)) :
    Ex X PG (d + 1) 0 164 [some (.ref a), some (.int x1)] [] h Q := wpx_ok (cut := [15, 30, 41, 66, 87, 98, 105, 123, 133, 164, 175, 186, 211, 222, 240, 258]) 5 d 0 164 _ _ _ _ w
theorem v0_175 {X : Cst} {d : Nat} {a : Nat} {x1 : Int32} {h : AH} {Q : Post}
  (w : ¬ (20 : Int32) < 0 ∧ Int32.toNatClampNeg 20 ≤ 1000000 ∧ hs (aN h (5 + 9, Int32.toNatClampNeg 20) (Int32.toNatClampNeg 20)) a = (0, 10) ∧ Ex X PG (d + 1) 0 186 [some (.ref a), some (.int 0)] [] (wR (aN h (5 + 9, Int32.toNatClampNeg 20) (Int32.toNatClampNeg 20)) a 8 (some (hn h))) Q) :
    Ex X PG (d + 1) 0 175 [some (.ref a), some (.int x1)] [] h Q := wpx_ok (cut := [15, 30, 41, 66, 87, 98, 105, 123, 133, 164, 175, 186, 211, 222, 240, 258]) 6 d 0 175 _ _ _ _ w
theorem v0_186 {X : Cst} {d : Nat} {a : Nat} {x1 : Int32} {h : AH} {Q : Post}
  (w : ((20 ≤ x1 →
      Ex X PG (d + 1) 0 211 [some (.ref a), some (.int x1)] [] h Q) ∧
    (¬ (20 ≤ x1) →
      hs h a = (0, 10) ∧ ∃ q1, hR h a 8 = some q1 ∧ Ex X PG d 12 0 [some (.ref (hn h))] [] (aN h (0, 9) 6) (fun v2 h3 => v2 = none ∧
        (∃ c, c < 100 ∧ (hs h3 q1).1 = 5 + c ∧ hs h3 (hn h) = (0, c)) ∧ ix x1 (hs h3 q1).2 ∧ Ex X PG (d + 1) 0 186 [some (.ref a), some (.int (x1 + 1))] [] (wR h3 q1 (Int32.toNatClampNeg x1) (some (hn h))) Q)))) :
    Ex X PG (d + 1) 0 186 [some (.ref a), some (.int x1)] [] h Q := wpx_ok (cut := [15, 30, 41, 66, 87, 98, 105, 123, 133, 164, 175, 186, 211, 222, 240, 258]) 12 d 0 186 _ _ _ _ w
theorem v0_211 {X : Cst} {d : Nat} {a : Nat} {x1 : Int32} {h : AH} {Q : Post}
  (w : Ex X PG d 13 0 [some (.ref (hn h))] [] (aN h (0, 1) 7) (fun v1 h2 => v1 = none ∧
      hs h2 a = (0, 10) ∧ Ex X PG (d + 1) 0 222 [some (.ref a), some (.int x1)] [] (wR h2 a 9 (some (hn h))) Q)) :
    Ex X PG (d + 1) 0 211 [some (.ref a), some (.int x1)] [] h Q := wpx_ok (cut := [15, 30, 41, 66, 87, 98, 105, 123, 133, 164, 175, 186, 211, 222, 240, 258]) 5 d 0 211 _ _ _ _ w
theorem v0_222 {X : Cst} {d : Nat} {a : Nat} {x1 : Int32} {h : AH} {Q : Post}
  (w : hs (aN h (0, 7) 8) a = (0, 10) ∧ ∃ q1, hR (aN h (0, 7) 8) a 5 = some q1 ∧ hs (aN h (0, 7) 8) q1 = (0, 6) ∧ ∃ q2, hR (aN h (0, 7) 8) q1 0 = some q2 ∧ Ex X PG d 14 0 [some (.ref (hn h)), some (.ref q2)] [] (aN h (0, 7) 8) (fun v3 h4 => v3 = none ∧
      hs h4 a = (0, 10) ∧ Ex X PG (d + 1) 0 240 [some (.ref a), some (.int x1)] [] (wR h4 a 10 (some (hn h))) Q)) :
    Ex X PG (d + 1) 0 222 [some (.ref a), some (.int x1)] [] h Q := wpx_ok (cut := [15, 30, 41, 66, 87, 98, 105, 123, 133, 164, 175, 186, 211, 222, 240, 258]) 8 d 0 222 _ _ _ _ w
theorem v0_240 {X : Cst} {d : Nat} {a : Nat} {x1 : Int32} {h : AH} {Q : Post}
  (w : hs (aN h (0, 3) 10) a = (0, 10) ∧ ∃ q1, hR (aN h (0, 3) 10) a 5 = some q1 ∧ hs (aN h (0, 3) 10) q1 = (0, 6) ∧ ∃ q2, hR (aN h (0, 3) 10) q1 0 = some q2 ∧ Ex X PG d 16 0 [some (.ref (hn h)), some (.ref q2)] [] (aN h (0, 3) 10) (fun v3 h4 => v3 = none ∧
      hs h4 a = (0, 10) ∧ Ex X PG (d + 1) 0 258 [some (.ref a), some (.int x1)] [] (wR h4 a 11 (some (hn h))) Q)) :
    Ex X PG (d + 1) 0 240 [some (.ref a), some (.int x1)] [] h Q := wpx_ok (cut := [15, 30, 41, 66, 87, 98, 105, 123, 133, 164, 175, 186, 211, 222, 240, 258]) 8 d 0 240 _ _ _ _ w
theorem v0_258 {X : Cst} {d : Nat} {a : Nat} {x1 : Int32} {h : AH} {Q : Post}
  (w : ¬ (32 : Int32) < 0 ∧ Int32.toNatClampNeg 32 ≤ 1000000 ∧ hs (aN h (1, Int32.toNatClampNeg 32) (Int32.toNatClampNeg 32)) a = (0, 10) ∧ Q none (wR (aN h (1, Int32.toNatClampNeg 32) (Int32.toNatClampNeg 32)) a 12 (some (hn h)))) :
    Ex X PG (d + 1) 0 258 [some (.ref a), some (.int x1)] [] h Q := wpx_ok (cut := [15, 30, 41, 66, 87, 98, 105, 123, 133, 164, 175, 186, 211, 222, 240, 258]) 5 d 0 258 _ _ _ _ w
set_option maxRecDepth 100000 in
set_option maxHeartbeats 4000000 in
theorem m0c {X : Cst} {d : Nat} {h : AH} {Q : Post} (hd : 10 ≤ d) (H : HG h k0) (k : ∀ h', HG h' k18 → Q none h') : Ex X PG d 0 0 [some (.ref 0), none] [] h Q := by
  obtain ⟨d, rfl⟩ : ∃ e, d = e + 1 := ⟨d - 1, by omega⟩
  refine v0_0 ?_
  rw [H.n' (n := 1) (by decide +kernel)]
  refine m1c (a := 1) (s := sA k0 (0, 8) 7) (by omega) ⟨H.al, by decide +kernel, by decide +kernel⟩ (fun h H => ⟨rfl, H.s' (c := 0) (t := (0, 10)) (by decide +kernel), ?_⟩)
  replace H : HG _ k1 := H.rw (a := 0) (k := 0) (x := some 1)
  generalize wR h 0 0 (some 1) = h at *
  refine v0_15 ?_
  rw [H.n' (n := 3) (by decide +kernel)]
  refine ⟨H.al.s' (c := 0) (t := (0, 10)) (by decide +kernel), 1, H.al.r' (c := 0) (k := 0) (v := some 1) (by decide +kernel), ?_⟩
  refine m2c (a := 3) (a1 := 1) (s := sA k1 (0, 0) 3) (by omega) ⟨H.al, by decide +kernel, by decide +kernel⟩ (fun h H => ⟨rfl, H.s' (c := 0) (t := (0, 10)) (by decide +kernel), ?_⟩)
  replace H : HG _ k2 := H.rw (a := 0) (k := 1) (x := some 3)
  generalize wR h 0 1 (some 3) = h at *
  refine v0_30 ?_
  rw [H.n' (n := 15) (by decide +kernel)]
  rw [tcM_6]
  refine ⟨by decide, by decide, H.al.s' (c := 0) (t := (0, 10)) (by decide +kernel), ?_⟩
  replace H : HG _ (lpR 0) := H.al.rw (a := 0) (k := 3) (x := some 15)
  generalize wR (aN h (5 + 4, 6) 6) 0 3 (some 15) = h at *
  refine v0_41 ⟨fun z => absurd z (by decide), fun _ => ?_⟩
  rw [H.n' (n := 16) (by decide +kernel)]
  refine ⟨H.s' (c := 0) (t := (0, 10)) (by decide +kernel), 15, H.r' (c := 0) (k := 3) (v := some 15) (by decide +kernel), ?_⟩
  refine m5c (a := 16) (s := sA (lpR 0) (0, 4) 6) (by omega) ⟨H.al, by decide +kernel, by decide +kernel⟩ (fun h H => ⟨rfl, ⟨4, by decide, by rw [H.s' (c := 15) (t := (9, 6)) (by decide +kernel)], H.s' (c := 16) (t := (0, 4)) (by decide +kernel)⟩, ixs (i := 0) (H.s' (c := 15) (t := (9, 6)) (by decide +kernel)) (by omega) (by omega), ?_⟩)
  rw [show Int32.toNatClampNeg 0 = 0 from by decide, show (0 : Int32) + 1 = 1 from by decide]
  replace H : HG _ (lpR 1) := H.rw (a := 15) (k := 0) (x := some 16)
  generalize wR h 15 0 (some 16) = h at *
  refine v0_41 ⟨fun z => absurd z (by decide), fun _ => ?_⟩
  rw [H.n' (n := 21) (by decide +kernel)]
  refine ⟨H.s' (c := 0) (t := (0, 10)) (by decide +kernel), 15, H.r' (c := 0) (k := 3) (v := some 15) (by decide +kernel), ?_⟩
  refine m5c (a := 21) (s := sA (lpR 1) (0, 4) 6) (by omega) ⟨H.al, by decide +kernel, by decide +kernel⟩ (fun h H => ⟨rfl, ⟨4, by decide, by rw [H.s' (c := 15) (t := (9, 6)) (by decide +kernel)], H.s' (c := 21) (t := (0, 4)) (by decide +kernel)⟩, ixs (i := 1) (H.s' (c := 15) (t := (9, 6)) (by decide +kernel)) (by omega) (by omega), ?_⟩)
  rw [show Int32.toNatClampNeg 1 = 1 from by decide, show (1 : Int32) + 1 = 2 from by decide]
  replace H : HG _ (lpR 2) := H.rw (a := 15) (k := 1) (x := some 21)
  generalize wR h 15 1 (some 21) = h at *
  refine v0_41 ⟨fun z => absurd z (by decide), fun _ => ?_⟩
  rw [H.n' (n := 26) (by decide +kernel)]
  refine ⟨H.s' (c := 0) (t := (0, 10)) (by decide +kernel), 15, H.r' (c := 0) (k := 3) (v := some 15) (by decide +kernel), ?_⟩
  refine m5c (a := 26) (s := sA (lpR 2) (0, 4) 6) (by omega) ⟨H.al, by decide +kernel, by decide +kernel⟩ (fun h H => ⟨rfl, ⟨4, by decide, by rw [H.s' (c := 15) (t := (9, 6)) (by decide +kernel)], H.s' (c := 26) (t := (0, 4)) (by decide +kernel)⟩, ixs (i := 2) (H.s' (c := 15) (t := (9, 6)) (by decide +kernel)) (by omega) (by omega), ?_⟩)
  rw [show Int32.toNatClampNeg 2 = 2 from by decide, show (2 : Int32) + 1 = 3 from by decide]
  replace H : HG _ (lpR 3) := H.rw (a := 15) (k := 2) (x := some 26)
  generalize wR h 15 2 (some 26) = h at *
  refine v0_41 ⟨fun z => absurd z (by decide), fun _ => ?_⟩
  rw [H.n' (n := 31) (by decide +kernel)]
  refine ⟨H.s' (c := 0) (t := (0, 10)) (by decide +kernel), 15, H.r' (c := 0) (k := 3) (v := some 15) (by decide +kernel), ?_⟩
  refine m5c (a := 31) (s := sA (lpR 3) (0, 4) 6) (by omega) ⟨H.al, by decide +kernel, by decide +kernel⟩ (fun h H => ⟨rfl, ⟨4, by decide, by rw [H.s' (c := 15) (t := (9, 6)) (by decide +kernel)], H.s' (c := 31) (t := (0, 4)) (by decide +kernel)⟩, ixs (i := 3) (H.s' (c := 15) (t := (9, 6)) (by decide +kernel)) (by omega) (by omega), ?_⟩)
  rw [show Int32.toNatClampNeg 3 = 3 from by decide, show (3 : Int32) + 1 = 4 from by decide]
  replace H : HG _ (lpR 4) := H.rw (a := 15) (k := 3) (x := some 31)
  generalize wR h 15 3 (some 31) = h at *
  refine v0_41 ⟨fun z => absurd z (by decide), fun _ => ?_⟩
  rw [H.n' (n := 36) (by decide +kernel)]
  refine ⟨H.s' (c := 0) (t := (0, 10)) (by decide +kernel), 15, H.r' (c := 0) (k := 3) (v := some 15) (by decide +kernel), ?_⟩
  refine m5c (a := 36) (s := sA (lpR 4) (0, 4) 6) (by omega) ⟨H.al, by decide +kernel, by decide +kernel⟩ (fun h H => ⟨rfl, ⟨4, by decide, by rw [H.s' (c := 15) (t := (9, 6)) (by decide +kernel)], H.s' (c := 36) (t := (0, 4)) (by decide +kernel)⟩, ixs (i := 4) (H.s' (c := 15) (t := (9, 6)) (by decide +kernel)) (by omega) (by omega), ?_⟩)
  rw [show Int32.toNatClampNeg 4 = 4 from by decide, show (4 : Int32) + 1 = 5 from by decide]
  replace H : HG _ (lpR 5) := H.rw (a := 15) (k := 4) (x := some 36)
  generalize wR h 15 4 (some 36) = h at *
  refine v0_41 ⟨fun z => absurd z (by decide), fun _ => ?_⟩
  rw [H.n' (n := 41) (by decide +kernel)]
  refine ⟨H.s' (c := 0) (t := (0, 10)) (by decide +kernel), 15, H.r' (c := 0) (k := 3) (v := some 15) (by decide +kernel), ?_⟩
  refine m5c (a := 41) (s := sA (lpR 5) (0, 4) 6) (by omega) ⟨H.al, by decide +kernel, by decide +kernel⟩ (fun h H => ⟨rfl, ⟨4, by decide, by rw [H.s' (c := 15) (t := (9, 6)) (by decide +kernel)], H.s' (c := 41) (t := (0, 4)) (by decide +kernel)⟩, ixs (i := 5) (H.s' (c := 15) (t := (9, 6)) (by decide +kernel)) (by omega) (by omega), ?_⟩)
  rw [show Int32.toNatClampNeg 5 = 5 from by decide, show (5 : Int32) + 1 = 6 from by decide]
  replace H : HG _ (lpR 6) := H.rw (a := 15) (k := 5) (x := some 41)
  generalize wR h 15 5 (some 41) = h at *
  refine v0_41 ⟨fun _ => ?_, fun z => absurd (by decide) z⟩
  refine v0_66 ?_
  rw [H.n' (n := 46) (by decide +kernel)]
  refine ⟨H.al.s' (c := 0) (t := (0, 10)) (by decide +kernel), 1, H.al.r' (c := 0) (k := 0) (v := some 1) (by decide +kernel), H.al.s' (c := 0) (t := (0, 10)) (by decide +kernel), 15, H.al.r' (c := 0) (k := 3) (v := some 15) (by decide +kernel), by rw [H.al.s' (c := 15) (t := (9, 6)) (by decide +kernel)]; decide, ixs (i := 0) (H.al.s' (c := 15) (t := (9, 6)) (by decide +kernel)) (by omega) (by omega), 16, ?_⟩
  rw [show Int32.toNatClampNeg 0 = 0 from by decide]
  refine ⟨H.al.r' (c := 15) (k := 0) (v := some 16) (by decide +kernel), ?_⟩
  refine m6c (a := 46) (a1 := 1) (a2 := 16) (s := sA (lpR 6) (0, 5) 3) (by omega) ⟨H.al, by decide +kernel, by decide +kernel⟩ (fun h H => ⟨rfl, H.s' (c := 0) (t := (0, 10)) (by decide +kernel), ?_⟩)
  replace H : HG _ k5 := H.rw (a := 0) (k := 2) (x := some 46)
  generalize wR h 0 2 (some 46) = h at *
  refine v0_87 ?_
  rw [H.n' (n := 47) (by decide +kernel)]
  refine m5c (a := 47) (s := sA k5 (0, 4) 6) (by omega) ⟨H.al, by decide +kernel, by decide +kernel⟩ (fun h H => ⟨rfl, H.s' (c := 0) (t := (0, 10)) (by decide +kernel), ?_⟩)
  replace H : HG _ k6 := H.rw (a := 0) (k := 4) (x := some 47)
  generalize wR h 0 4 (some 47) = h at *
  refine v0_98 ⟨H.s' (c := 0) (t := (0, 10)) (by decide +kernel), 47, H.r' (c := 0) (k := 4) (v := some 47) (by decide +kernel), H.s' (c := 47) (t := (0, 4)) (by decide +kernel), ?_⟩
  refine m7c (a := 47) (s := k6) (by omega) ⟨H, by decide +kernel, by decide +kernel⟩ (by decide +kernel) (by decide +kernel) (by decide +kernel) (by decide +kernel) (by decide +kernel) (by decide +kernel) (fun h H => ⟨rfl, ?_⟩)
  replace H : HG h k7 := H
  rw [(H.al (t := (0, 6)) (z := 9)).n' (n := 53) (by decide +kernel)]
  rw [H.n' (n := 52) (by decide +kernel)]
  refine m3c (a := 53) (s := sA (sA k7 (0, 6) 9) (0, 2) 16) (by omega) ⟨H.al.al, by decide +kernel, by decide +kernel⟩ (by decide +kernel) (fun h H => ⟨rfl, ?_⟩)
  refine m11c (a := 52) (a1 := 53) (s := cPlan 53 (sA (sA k7 (0, 6) 9) (0, 2) 16)) (by omega) ⟨H, by decide +kernel, by decide +kernel⟩ (fun h H => ⟨rfl, H.s' (c := 0) (t := (0, 10)) (by decide +kernel), ?_⟩)
  replace H : HG _ k9 := H.rw (a := 0) (k := 5) (x := some 52)
  generalize wR h 0 5 (some 52) = h at *
  refine v0_123 ?_
  rw [H.n' (n := 73) (by decide +kernel)]
  rw [tcM_4]
  refine ⟨by decide, by decide, H.al.s' (c := 0) (t := (0, 10)) (by decide +kernel), ?_⟩
  replace H : HG _ (lpI 0) := H.al.rw (a := 0) (k := 6) (x := some 73)
  generalize wR (aN h (5 + 6, 4) 4) 0 6 (some 73) = h at *
  refine v0_133 ⟨fun z => absurd z (by decide), fun _ => ?_⟩
  rw [H.n' (n := 74) (by decide +kernel)]
  refine ⟨H.s' (c := 0) (t := (0, 10)) (by decide +kernel), 73, H.r' (c := 0) (k := 6) (v := some 73) (by decide +kernel), H.al.s' (c := 0) (t := (0, 10)) (by decide +kernel), 52, H.al.r' (c := 0) (k := 5) (v := some 52) (by decide +kernel), H.al.s' (c := 52) (t := (0, 6)) (by decide +kernel), 53, H.al.r' (c := 52) (k := 0) (v := some 53) (by decide +kernel), ?_⟩
  refine m11c (a := 74) (a1 := 53) (s := sA (lpI 0) (0, 6) 9) (by omega) ⟨H.al, by decide +kernel, by decide +kernel⟩ (fun h H => ⟨rfl, ⟨6, by decide, by rw [H.s' (c := 73) (t := (11, 4)) (by decide +kernel)], H.s' (c := 74) (t := (0, 6)) (by decide +kernel)⟩, ixs (i := 0) (H.s' (c := 73) (t := (11, 4)) (by decide +kernel)) (by omega) (by omega), ?_⟩)
  rw [show Int32.toNatClampNeg 0 = 0 from by decide, show (0 : Int32) + 1 = 1 from by decide]
  replace H : HG _ (lpI 1) := H.rw (a := 73) (k := 0) (x := some 74)
  generalize wR h 73 0 (some 74) = h at *
  refine v0_133 ⟨fun z => absurd z (by decide), fun _ => ?_⟩
  rw [H.n' (n := 84) (by decide +kernel)]
  refine ⟨H.s' (c := 0) (t := (0, 10)) (by decide +kernel), 73, H.r' (c := 0) (k := 6) (v := some 73) (by decide +kernel), H.al.s' (c := 0) (t := (0, 10)) (by decide +kernel), 52, H.al.r' (c := 0) (k := 5) (v := some 52) (by decide +kernel), H.al.s' (c := 52) (t := (0, 6)) (by decide +kernel), 53, H.al.r' (c := 52) (k := 0) (v := some 53) (by decide +kernel), ?_⟩
  refine m11c (a := 84) (a1 := 53) (s := sA (lpI 1) (0, 6) 9) (by omega) ⟨H.al, by decide +kernel, by decide +kernel⟩ (fun h H => ⟨rfl, ⟨6, by decide, by rw [H.s' (c := 73) (t := (11, 4)) (by decide +kernel)], H.s' (c := 84) (t := (0, 6)) (by decide +kernel)⟩, ixs (i := 1) (H.s' (c := 73) (t := (11, 4)) (by decide +kernel)) (by omega) (by omega), ?_⟩)
  rw [show Int32.toNatClampNeg 1 = 1 from by decide, show (1 : Int32) + 1 = 2 from by decide]
  replace H : HG _ (lpI 2) := H.rw (a := 73) (k := 1) (x := some 84)
  generalize wR h 73 1 (some 84) = h at *
  refine v0_133 ⟨fun z => absurd z (by decide), fun _ => ?_⟩
  rw [H.n' (n := 94) (by decide +kernel)]
  refine ⟨H.s' (c := 0) (t := (0, 10)) (by decide +kernel), 73, H.r' (c := 0) (k := 6) (v := some 73) (by decide +kernel), H.al.s' (c := 0) (t := (0, 10)) (by decide +kernel), 52, H.al.r' (c := 0) (k := 5) (v := some 52) (by decide +kernel), H.al.s' (c := 52) (t := (0, 6)) (by decide +kernel), 53, H.al.r' (c := 52) (k := 0) (v := some 53) (by decide +kernel), ?_⟩
  refine m11c (a := 94) (a1 := 53) (s := sA (lpI 2) (0, 6) 9) (by omega) ⟨H.al, by decide +kernel, by decide +kernel⟩ (fun h H => ⟨rfl, ⟨6, by decide, by rw [H.s' (c := 73) (t := (11, 4)) (by decide +kernel)], H.s' (c := 94) (t := (0, 6)) (by decide +kernel)⟩, ixs (i := 2) (H.s' (c := 73) (t := (11, 4)) (by decide +kernel)) (by omega) (by omega), ?_⟩)
  rw [show Int32.toNatClampNeg 2 = 2 from by decide, show (2 : Int32) + 1 = 3 from by decide]
  replace H : HG _ (lpI 3) := H.rw (a := 73) (k := 2) (x := some 94)
  generalize wR h 73 2 (some 94) = h at *
  refine v0_133 ⟨fun z => absurd z (by decide), fun _ => ?_⟩
  rw [H.n' (n := 104) (by decide +kernel)]
  refine ⟨H.s' (c := 0) (t := (0, 10)) (by decide +kernel), 73, H.r' (c := 0) (k := 6) (v := some 73) (by decide +kernel), H.al.s' (c := 0) (t := (0, 10)) (by decide +kernel), 52, H.al.r' (c := 0) (k := 5) (v := some 52) (by decide +kernel), H.al.s' (c := 52) (t := (0, 6)) (by decide +kernel), 53, H.al.r' (c := 52) (k := 0) (v := some 53) (by decide +kernel), ?_⟩
  refine m11c (a := 104) (a1 := 53) (s := sA (lpI 3) (0, 6) 9) (by omega) ⟨H.al, by decide +kernel, by decide +kernel⟩ (fun h H => ⟨rfl, ⟨6, by decide, by rw [H.s' (c := 73) (t := (11, 4)) (by decide +kernel)], H.s' (c := 104) (t := (0, 6)) (by decide +kernel)⟩, ixs (i := 3) (H.s' (c := 73) (t := (11, 4)) (by decide +kernel)) (by omega) (by omega), ?_⟩)
  rw [show Int32.toNatClampNeg 3 = 3 from by decide, show (3 : Int32) + 1 = 4 from by decide]
  replace H : HG _ (lpI 4) := H.rw (a := 73) (k := 3) (x := some 104)
  generalize wR h 73 3 (some 104) = h at *
  refine v0_133 ⟨fun _ => ?_, fun z => absurd (by decide) z⟩
  refine v0_164 ?_
  rw [H.n' (n := 114) (by decide +kernel)]
  refine m12c (a := 114) (s := sA (lpI 4) (0, 9) 6) (by omega) ⟨H.al, by decide +kernel, by decide +kernel⟩ (fun h H => ⟨rfl, H.s' (c := 0) (t := (0, 10)) (by decide +kernel), ?_⟩)
  replace H : HG _ k12 := H.rw (a := 0) (k := 7) (x := some 114)
  generalize wR h 0 7 (some 114) = h at *
  refine v0_175 ?_
  rw [H.n' (n := 120) (by decide +kernel)]
  rw [tcM_20]
  refine ⟨by decide, by decide, H.al.s' (c := 0) (t := (0, 10)) (by decide +kernel), ?_⟩
  replace H : HG _ (lpP 0) := H.al.rw (a := 0) (k := 8) (x := some 120)
  generalize wR (aN h (5 + 9, 20) 20) 0 8 (some 120) = h at *
  refine v0_186 ⟨fun z => absurd z (by decide), fun _ => ?_⟩
  rw [H.n' (n := 121) (by decide +kernel)]
  refine ⟨H.s' (c := 0) (t := (0, 10)) (by decide +kernel), 120, H.r' (c := 0) (k := 8) (v := some 120) (by decide +kernel), ?_⟩
  refine m12c (a := 121) (s := sA (lpP 0) (0, 9) 6) (by omega) ⟨H.al, by decide +kernel, by decide +kernel⟩ (fun h H => ⟨rfl, ⟨9, by decide, by rw [H.s' (c := 120) (t := (14, 20)) (by decide +kernel)], H.s' (c := 121) (t := (0, 9)) (by decide +kernel)⟩, ixs (i := 0) (H.s' (c := 120) (t := (14, 20)) (by decide +kernel)) (by omega) (by omega), ?_⟩)
  rw [show Int32.toNatClampNeg 0 = 0 from by decide, show (0 : Int32) + 1 = 1 from by decide]
  replace H : HG _ (lpP 1) := H.rw (a := 120) (k := 0) (x := some 121)
  generalize wR h 120 0 (some 121) = h at *
  refine v0_186 ⟨fun z => absurd z (by decide), fun _ => ?_⟩
  rw [H.n' (n := 127) (by decide +kernel)]
  refine ⟨H.s' (c := 0) (t := (0, 10)) (by decide +kernel), 120, H.r' (c := 0) (k := 8) (v := some 120) (by decide +kernel), ?_⟩
  refine m12c (a := 127) (s := sA (lpP 1) (0, 9) 6) (by omega) ⟨H.al, by decide +kernel, by decide +kernel⟩ (fun h H => ⟨rfl, ⟨9, by decide, by rw [H.s' (c := 120) (t := (14, 20)) (by decide +kernel)], H.s' (c := 127) (t := (0, 9)) (by decide +kernel)⟩, ixs (i := 1) (H.s' (c := 120) (t := (14, 20)) (by decide +kernel)) (by omega) (by omega), ?_⟩)
  rw [show Int32.toNatClampNeg 1 = 1 from by decide, show (1 : Int32) + 1 = 2 from by decide]
  replace H : HG _ (lpP 2) := H.rw (a := 120) (k := 1) (x := some 127)
  generalize wR h 120 1 (some 127) = h at *
  refine v0_186 ⟨fun z => absurd z (by decide), fun _ => ?_⟩
  rw [H.n' (n := 133) (by decide +kernel)]
  refine ⟨H.s' (c := 0) (t := (0, 10)) (by decide +kernel), 120, H.r' (c := 0) (k := 8) (v := some 120) (by decide +kernel), ?_⟩
  refine m12c (a := 133) (s := sA (lpP 2) (0, 9) 6) (by omega) ⟨H.al, by decide +kernel, by decide +kernel⟩ (fun h H => ⟨rfl, ⟨9, by decide, by rw [H.s' (c := 120) (t := (14, 20)) (by decide +kernel)], H.s' (c := 133) (t := (0, 9)) (by decide +kernel)⟩, ixs (i := 2) (H.s' (c := 120) (t := (14, 20)) (by decide +kernel)) (by omega) (by omega), ?_⟩)
  rw [show Int32.toNatClampNeg 2 = 2 from by decide, show (2 : Int32) + 1 = 3 from by decide]
  replace H : HG _ (lpP 3) := H.rw (a := 120) (k := 2) (x := some 133)
  generalize wR h 120 2 (some 133) = h at *
  refine v0_186 ⟨fun z => absurd z (by decide), fun _ => ?_⟩
  rw [H.n' (n := 139) (by decide +kernel)]
  refine ⟨H.s' (c := 0) (t := (0, 10)) (by decide +kernel), 120, H.r' (c := 0) (k := 8) (v := some 120) (by decide +kernel), ?_⟩
  refine m12c (a := 139) (s := sA (lpP 3) (0, 9) 6) (by omega) ⟨H.al, by decide +kernel, by decide +kernel⟩ (fun h H => ⟨rfl, ⟨9, by decide, by rw [H.s' (c := 120) (t := (14, 20)) (by decide +kernel)], H.s' (c := 139) (t := (0, 9)) (by decide +kernel)⟩, ixs (i := 3) (H.s' (c := 120) (t := (14, 20)) (by decide +kernel)) (by omega) (by omega), ?_⟩)
  rw [show Int32.toNatClampNeg 3 = 3 from by decide, show (3 : Int32) + 1 = 4 from by decide]
  replace H : HG _ (lpP 4) := H.rw (a := 120) (k := 3) (x := some 139)
  generalize wR h 120 3 (some 139) = h at *
  refine v0_186 ⟨fun z => absurd z (by decide), fun _ => ?_⟩
  rw [H.n' (n := 145) (by decide +kernel)]
  refine ⟨H.s' (c := 0) (t := (0, 10)) (by decide +kernel), 120, H.r' (c := 0) (k := 8) (v := some 120) (by decide +kernel), ?_⟩
  refine m12c (a := 145) (s := sA (lpP 4) (0, 9) 6) (by omega) ⟨H.al, by decide +kernel, by decide +kernel⟩ (fun h H => ⟨rfl, ⟨9, by decide, by rw [H.s' (c := 120) (t := (14, 20)) (by decide +kernel)], H.s' (c := 145) (t := (0, 9)) (by decide +kernel)⟩, ixs (i := 4) (H.s' (c := 120) (t := (14, 20)) (by decide +kernel)) (by omega) (by omega), ?_⟩)
  rw [show Int32.toNatClampNeg 4 = 4 from by decide, show (4 : Int32) + 1 = 5 from by decide]
  replace H : HG _ (lpP 5) := H.rw (a := 120) (k := 4) (x := some 145)
  generalize wR h 120 4 (some 145) = h at *
  refine v0_186 ⟨fun z => absurd z (by decide), fun _ => ?_⟩
  rw [H.n' (n := 151) (by decide +kernel)]
  refine ⟨H.s' (c := 0) (t := (0, 10)) (by decide +kernel), 120, H.r' (c := 0) (k := 8) (v := some 120) (by decide +kernel), ?_⟩
  refine m12c (a := 151) (s := sA (lpP 5) (0, 9) 6) (by omega) ⟨H.al, by decide +kernel, by decide +kernel⟩ (fun h H => ⟨rfl, ⟨9, by decide, by rw [H.s' (c := 120) (t := (14, 20)) (by decide +kernel)], H.s' (c := 151) (t := (0, 9)) (by decide +kernel)⟩, ixs (i := 5) (H.s' (c := 120) (t := (14, 20)) (by decide +kernel)) (by omega) (by omega), ?_⟩)
  rw [show Int32.toNatClampNeg 5 = 5 from by decide, show (5 : Int32) + 1 = 6 from by decide]
  replace H : HG _ (lpP 6) := H.rw (a := 120) (k := 5) (x := some 151)
  generalize wR h 120 5 (some 151) = h at *
  refine v0_186 ⟨fun z => absurd z (by decide), fun _ => ?_⟩
  rw [H.n' (n := 157) (by decide +kernel)]
  refine ⟨H.s' (c := 0) (t := (0, 10)) (by decide +kernel), 120, H.r' (c := 0) (k := 8) (v := some 120) (by decide +kernel), ?_⟩
  refine m12c (a := 157) (s := sA (lpP 6) (0, 9) 6) (by omega) ⟨H.al, by decide +kernel, by decide +kernel⟩ (fun h H => ⟨rfl, ⟨9, by decide, by rw [H.s' (c := 120) (t := (14, 20)) (by decide +kernel)], H.s' (c := 157) (t := (0, 9)) (by decide +kernel)⟩, ixs (i := 6) (H.s' (c := 120) (t := (14, 20)) (by decide +kernel)) (by omega) (by omega), ?_⟩)
  rw [show Int32.toNatClampNeg 6 = 6 from by decide, show (6 : Int32) + 1 = 7 from by decide]
  replace H : HG _ (lpP 7) := H.rw (a := 120) (k := 6) (x := some 157)
  generalize wR h 120 6 (some 157) = h at *
  refine v0_186 ⟨fun z => absurd z (by decide), fun _ => ?_⟩
  rw [H.n' (n := 163) (by decide +kernel)]
  refine ⟨H.s' (c := 0) (t := (0, 10)) (by decide +kernel), 120, H.r' (c := 0) (k := 8) (v := some 120) (by decide +kernel), ?_⟩
  refine m12c (a := 163) (s := sA (lpP 7) (0, 9) 6) (by omega) ⟨H.al, by decide +kernel, by decide +kernel⟩ (fun h H => ⟨rfl, ⟨9, by decide, by rw [H.s' (c := 120) (t := (14, 20)) (by decide +kernel)], H.s' (c := 163) (t := (0, 9)) (by decide +kernel)⟩, ixs (i := 7) (H.s' (c := 120) (t := (14, 20)) (by decide +kernel)) (by omega) (by omega), ?_⟩)
  rw [show Int32.toNatClampNeg 7 = 7 from by decide, show (7 : Int32) + 1 = 8 from by decide]
  replace H : HG _ (lpP 8) := H.rw (a := 120) (k := 7) (x := some 163)
  generalize wR h 120 7 (some 163) = h at *
  refine v0_186 ⟨fun z => absurd z (by decide), fun _ => ?_⟩
  rw [H.n' (n := 169) (by decide +kernel)]
  refine ⟨H.s' (c := 0) (t := (0, 10)) (by decide +kernel), 120, H.r' (c := 0) (k := 8) (v := some 120) (by decide +kernel), ?_⟩
  refine m12c (a := 169) (s := sA (lpP 8) (0, 9) 6) (by omega) ⟨H.al, by decide +kernel, by decide +kernel⟩ (fun h H => ⟨rfl, ⟨9, by decide, by rw [H.s' (c := 120) (t := (14, 20)) (by decide +kernel)], H.s' (c := 169) (t := (0, 9)) (by decide +kernel)⟩, ixs (i := 8) (H.s' (c := 120) (t := (14, 20)) (by decide +kernel)) (by omega) (by omega), ?_⟩)
  rw [show Int32.toNatClampNeg 8 = 8 from by decide, show (8 : Int32) + 1 = 9 from by decide]
  replace H : HG _ (lpP 9) := H.rw (a := 120) (k := 8) (x := some 169)
  generalize wR h 120 8 (some 169) = h at *
  refine v0_186 ⟨fun z => absurd z (by decide), fun _ => ?_⟩
  rw [H.n' (n := 175) (by decide +kernel)]
  refine ⟨H.s' (c := 0) (t := (0, 10)) (by decide +kernel), 120, H.r' (c := 0) (k := 8) (v := some 120) (by decide +kernel), ?_⟩
  refine m12c (a := 175) (s := sA (lpP 9) (0, 9) 6) (by omega) ⟨H.al, by decide +kernel, by decide +kernel⟩ (fun h H => ⟨rfl, ⟨9, by decide, by rw [H.s' (c := 120) (t := (14, 20)) (by decide +kernel)], H.s' (c := 175) (t := (0, 9)) (by decide +kernel)⟩, ixs (i := 9) (H.s' (c := 120) (t := (14, 20)) (by decide +kernel)) (by omega) (by omega), ?_⟩)
  rw [show Int32.toNatClampNeg 9 = 9 from by decide, show (9 : Int32) + 1 = 10 from by decide]
  replace H : HG _ (lpP 10) := H.rw (a := 120) (k := 9) (x := some 175)
  generalize wR h 120 9 (some 175) = h at *
  refine v0_186 ⟨fun z => absurd z (by decide), fun _ => ?_⟩
  rw [H.n' (n := 181) (by decide +kernel)]
  refine ⟨H.s' (c := 0) (t := (0, 10)) (by decide +kernel), 120, H.r' (c := 0) (k := 8) (v := some 120) (by decide +kernel), ?_⟩
  refine m12c (a := 181) (s := sA (lpP 10) (0, 9) 6) (by omega) ⟨H.al, by decide +kernel, by decide +kernel⟩ (fun h H => ⟨rfl, ⟨9, by decide, by rw [H.s' (c := 120) (t := (14, 20)) (by decide +kernel)], H.s' (c := 181) (t := (0, 9)) (by decide +kernel)⟩, ixs (i := 10) (H.s' (c := 120) (t := (14, 20)) (by decide +kernel)) (by omega) (by omega), ?_⟩)
  rw [show Int32.toNatClampNeg 10 = 10 from by decide, show (10 : Int32) + 1 = 11 from by decide]
  replace H : HG _ (lpP 11) := H.rw (a := 120) (k := 10) (x := some 181)
  generalize wR h 120 10 (some 181) = h at *
  refine v0_186 ⟨fun z => absurd z (by decide), fun _ => ?_⟩
  rw [H.n' (n := 187) (by decide +kernel)]
  refine ⟨H.s' (c := 0) (t := (0, 10)) (by decide +kernel), 120, H.r' (c := 0) (k := 8) (v := some 120) (by decide +kernel), ?_⟩
  refine m12c (a := 187) (s := sA (lpP 11) (0, 9) 6) (by omega) ⟨H.al, by decide +kernel, by decide +kernel⟩ (fun h H => ⟨rfl, ⟨9, by decide, by rw [H.s' (c := 120) (t := (14, 20)) (by decide +kernel)], H.s' (c := 187) (t := (0, 9)) (by decide +kernel)⟩, ixs (i := 11) (H.s' (c := 120) (t := (14, 20)) (by decide +kernel)) (by omega) (by omega), ?_⟩)
  rw [show Int32.toNatClampNeg 11 = 11 from by decide, show (11 : Int32) + 1 = 12 from by decide]
  replace H : HG _ (lpP 12) := H.rw (a := 120) (k := 11) (x := some 187)
  generalize wR h 120 11 (some 187) = h at *
  refine v0_186 ⟨fun z => absurd z (by decide), fun _ => ?_⟩
  rw [H.n' (n := 193) (by decide +kernel)]
  refine ⟨H.s' (c := 0) (t := (0, 10)) (by decide +kernel), 120, H.r' (c := 0) (k := 8) (v := some 120) (by decide +kernel), ?_⟩
  refine m12c (a := 193) (s := sA (lpP 12) (0, 9) 6) (by omega) ⟨H.al, by decide +kernel, by decide +kernel⟩ (fun h H => ⟨rfl, ⟨9, by decide, by rw [H.s' (c := 120) (t := (14, 20)) (by decide +kernel)], H.s' (c := 193) (t := (0, 9)) (by decide +kernel)⟩, ixs (i := 12) (H.s' (c := 120) (t := (14, 20)) (by decide +kernel)) (by omega) (by omega), ?_⟩)
  rw [show Int32.toNatClampNeg 12 = 12 from by decide, show (12 : Int32) + 1 = 13 from by decide]
  replace H : HG _ (lpP 13) := H.rw (a := 120) (k := 12) (x := some 193)
  generalize wR h 120 12 (some 193) = h at *
  refine v0_186 ⟨fun z => absurd z (by decide), fun _ => ?_⟩
  rw [H.n' (n := 199) (by decide +kernel)]
  refine ⟨H.s' (c := 0) (t := (0, 10)) (by decide +kernel), 120, H.r' (c := 0) (k := 8) (v := some 120) (by decide +kernel), ?_⟩
  refine m12c (a := 199) (s := sA (lpP 13) (0, 9) 6) (by omega) ⟨H.al, by decide +kernel, by decide +kernel⟩ (fun h H => ⟨rfl, ⟨9, by decide, by rw [H.s' (c := 120) (t := (14, 20)) (by decide +kernel)], H.s' (c := 199) (t := (0, 9)) (by decide +kernel)⟩, ixs (i := 13) (H.s' (c := 120) (t := (14, 20)) (by decide +kernel)) (by omega) (by omega), ?_⟩)
  rw [show Int32.toNatClampNeg 13 = 13 from by decide, show (13 : Int32) + 1 = 14 from by decide]
  replace H : HG _ (lpP 14) := H.rw (a := 120) (k := 13) (x := some 199)
  generalize wR h 120 13 (some 199) = h at *
  refine v0_186 ⟨fun z => absurd z (by decide), fun _ => ?_⟩
  rw [H.n' (n := 205) (by decide +kernel)]
  refine ⟨H.s' (c := 0) (t := (0, 10)) (by decide +kernel), 120, H.r' (c := 0) (k := 8) (v := some 120) (by decide +kernel), ?_⟩
  refine m12c (a := 205) (s := sA (lpP 14) (0, 9) 6) (by omega) ⟨H.al, by decide +kernel, by decide +kernel⟩ (fun h H => ⟨rfl, ⟨9, by decide, by rw [H.s' (c := 120) (t := (14, 20)) (by decide +kernel)], H.s' (c := 205) (t := (0, 9)) (by decide +kernel)⟩, ixs (i := 14) (H.s' (c := 120) (t := (14, 20)) (by decide +kernel)) (by omega) (by omega), ?_⟩)
  rw [show Int32.toNatClampNeg 14 = 14 from by decide, show (14 : Int32) + 1 = 15 from by decide]
  replace H : HG _ (lpP 15) := H.rw (a := 120) (k := 14) (x := some 205)
  generalize wR h 120 14 (some 205) = h at *
  refine v0_186 ⟨fun z => absurd z (by decide), fun _ => ?_⟩
  rw [H.n' (n := 211) (by decide +kernel)]
  refine ⟨H.s' (c := 0) (t := (0, 10)) (by decide +kernel), 120, H.r' (c := 0) (k := 8) (v := some 120) (by decide +kernel), ?_⟩
  refine m12c (a := 211) (s := sA (lpP 15) (0, 9) 6) (by omega) ⟨H.al, by decide +kernel, by decide +kernel⟩ (fun h H => ⟨rfl, ⟨9, by decide, by rw [H.s' (c := 120) (t := (14, 20)) (by decide +kernel)], H.s' (c := 211) (t := (0, 9)) (by decide +kernel)⟩, ixs (i := 15) (H.s' (c := 120) (t := (14, 20)) (by decide +kernel)) (by omega) (by omega), ?_⟩)
  rw [show Int32.toNatClampNeg 15 = 15 from by decide, show (15 : Int32) + 1 = 16 from by decide]
  replace H : HG _ (lpP 16) := H.rw (a := 120) (k := 15) (x := some 211)
  generalize wR h 120 15 (some 211) = h at *
  refine v0_186 ⟨fun z => absurd z (by decide), fun _ => ?_⟩
  rw [H.n' (n := 217) (by decide +kernel)]
  refine ⟨H.s' (c := 0) (t := (0, 10)) (by decide +kernel), 120, H.r' (c := 0) (k := 8) (v := some 120) (by decide +kernel), ?_⟩
  refine m12c (a := 217) (s := sA (lpP 16) (0, 9) 6) (by omega) ⟨H.al, by decide +kernel, by decide +kernel⟩ (fun h H => ⟨rfl, ⟨9, by decide, by rw [H.s' (c := 120) (t := (14, 20)) (by decide +kernel)], H.s' (c := 217) (t := (0, 9)) (by decide +kernel)⟩, ixs (i := 16) (H.s' (c := 120) (t := (14, 20)) (by decide +kernel)) (by omega) (by omega), ?_⟩)
  rw [show Int32.toNatClampNeg 16 = 16 from by decide, show (16 : Int32) + 1 = 17 from by decide]
  replace H : HG _ (lpP 17) := H.rw (a := 120) (k := 16) (x := some 217)
  generalize wR h 120 16 (some 217) = h at *
  refine v0_186 ⟨fun z => absurd z (by decide), fun _ => ?_⟩
  rw [H.n' (n := 223) (by decide +kernel)]
  refine ⟨H.s' (c := 0) (t := (0, 10)) (by decide +kernel), 120, H.r' (c := 0) (k := 8) (v := some 120) (by decide +kernel), ?_⟩
  refine m12c (a := 223) (s := sA (lpP 17) (0, 9) 6) (by omega) ⟨H.al, by decide +kernel, by decide +kernel⟩ (fun h H => ⟨rfl, ⟨9, by decide, by rw [H.s' (c := 120) (t := (14, 20)) (by decide +kernel)], H.s' (c := 223) (t := (0, 9)) (by decide +kernel)⟩, ixs (i := 17) (H.s' (c := 120) (t := (14, 20)) (by decide +kernel)) (by omega) (by omega), ?_⟩)
  rw [show Int32.toNatClampNeg 17 = 17 from by decide, show (17 : Int32) + 1 = 18 from by decide]
  replace H : HG _ (lpP 18) := H.rw (a := 120) (k := 17) (x := some 223)
  generalize wR h 120 17 (some 223) = h at *
  refine v0_186 ⟨fun z => absurd z (by decide), fun _ => ?_⟩
  rw [H.n' (n := 229) (by decide +kernel)]
  refine ⟨H.s' (c := 0) (t := (0, 10)) (by decide +kernel), 120, H.r' (c := 0) (k := 8) (v := some 120) (by decide +kernel), ?_⟩
  refine m12c (a := 229) (s := sA (lpP 18) (0, 9) 6) (by omega) ⟨H.al, by decide +kernel, by decide +kernel⟩ (fun h H => ⟨rfl, ⟨9, by decide, by rw [H.s' (c := 120) (t := (14, 20)) (by decide +kernel)], H.s' (c := 229) (t := (0, 9)) (by decide +kernel)⟩, ixs (i := 18) (H.s' (c := 120) (t := (14, 20)) (by decide +kernel)) (by omega) (by omega), ?_⟩)
  rw [show Int32.toNatClampNeg 18 = 18 from by decide, show (18 : Int32) + 1 = 19 from by decide]
  replace H : HG _ (lpP 19) := H.rw (a := 120) (k := 18) (x := some 229)
  generalize wR h 120 18 (some 229) = h at *
  refine v0_186 ⟨fun z => absurd z (by decide), fun _ => ?_⟩
  rw [H.n' (n := 235) (by decide +kernel)]
  refine ⟨H.s' (c := 0) (t := (0, 10)) (by decide +kernel), 120, H.r' (c := 0) (k := 8) (v := some 120) (by decide +kernel), ?_⟩
  refine m12c (a := 235) (s := sA (lpP 19) (0, 9) 6) (by omega) ⟨H.al, by decide +kernel, by decide +kernel⟩ (fun h H => ⟨rfl, ⟨9, by decide, by rw [H.s' (c := 120) (t := (14, 20)) (by decide +kernel)], H.s' (c := 235) (t := (0, 9)) (by decide +kernel)⟩, ixs (i := 19) (H.s' (c := 120) (t := (14, 20)) (by decide +kernel)) (by omega) (by omega), ?_⟩)
  rw [show Int32.toNatClampNeg 19 = 19 from by decide, show (19 : Int32) + 1 = 20 from by decide]
  replace H : HG _ (lpP 20) := H.rw (a := 120) (k := 19) (x := some 235)
  generalize wR h 120 19 (some 235) = h at *
  refine v0_186 ⟨fun _ => ?_, fun z => absurd (by decide) z⟩
  refine v0_211 ?_
  rw [H.n' (n := 241) (by decide +kernel)]
  refine m13c (a := 241) (s := sA (lpP 20) (0, 1) 7) (by omega) ⟨H.al, by decide +kernel, by decide +kernel⟩ (fun h H => ⟨rfl, H.s' (c := 0) (t := (0, 10)) (by decide +kernel), ?_⟩)
  replace H : HG _ k15 := H.rw (a := 0) (k := 9) (x := some 241)
  generalize wR h 0 9 (some 241) = h at *
  refine v0_222 ?_
  rw [H.n' (n := 247) (by decide +kernel)]
  refine ⟨H.al.s' (c := 0) (t := (0, 10)) (by decide +kernel), 52, H.al.r' (c := 0) (k := 5) (v := some 52) (by decide +kernel), H.al.s' (c := 52) (t := (0, 6)) (by decide +kernel), 53, H.al.r' (c := 52) (k := 0) (v := some 53) (by decide +kernel), ?_⟩
  refine m14c (a := 247) (a1 := 53) (s := sA k15 (0, 7) 8) (by omega) ⟨H.al, by decide +kernel, by decide +kernel⟩ (fun h H => ⟨rfl, H.s' (c := 0) (t := (0, 10)) (by decide +kernel), ?_⟩)
  replace H : HG _ k16 := H.rw (a := 0) (k := 10) (x := some 247)
  generalize wR h 0 10 (some 247) = h at *
  refine v0_240 ?_
  rw [H.n' (n := 250) (by decide +kernel)]
  refine ⟨H.al.s' (c := 0) (t := (0, 10)) (by decide +kernel), 52, H.al.r' (c := 0) (k := 5) (v := some 52) (by decide +kernel), H.al.s' (c := 52) (t := (0, 6)) (by decide +kernel), 53, H.al.r' (c := 52) (k := 0) (v := some 53) (by decide +kernel), ?_⟩
  refine m16c (a := 250) (a1 := 53) (s := sA k16 (0, 3) 10) (by omega) ⟨H.al, by decide +kernel, by decide +kernel⟩ (fun h H => ⟨rfl, H.s' (c := 0) (t := (0, 10)) (by decide +kernel), ?_⟩)
  replace H : HG _ k17 := H.rw (a := 0) (k := 11) (x := some 250)
  generalize wR h 0 11 (some 250) = h at *
  refine v0_258 ?_
  rw [H.n' (n := 255) (by decide +kernel)]
  rw [tcM_32]
  exact ⟨by decide, by decide, H.al.s' (c := 0) (t := (0, 10)) (by decide +kernel), k _ (H.al.rw (a := 0) (k := 12) (x := some 255))⟩
