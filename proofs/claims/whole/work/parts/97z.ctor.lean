/-! CONSTRUCTORS. -/
theorem tcN_1 : Int32.toNatClampNeg 1 = 1 := by decide
theorem tcN_4 : Int32.toNatClampNeg 4 = 4 := by decide
theorem tcN_10 : Int32.toNatClampNeg 10 = 10 := by decide
theorem tcN_12 : Int32.toNatClampNeg 12 = 12 := by decide
theorem tcN_51 : Int32.toNatClampNeg 51 = 51 := by decide
theorem tcN_64 : Int32.toNatClampNeg 64 = 64 := by decide
theorem tcN_400 : Int32.toNatClampNeg 400 = 400 := by decide
theorem v1_0 {X : Cst} {d : Nat} {a : Nat} {h : AH} {Q : Post}
  (w : ¬ (400 : Int32) < 0 ∧ Int32.toNatClampNeg 400 ≤ 1000000 ∧ hs (aN h (3, Int32.toNatClampNeg 400) (Int32.toNatClampNeg 400)) a = (0, 8) ∧ Q none (wR (aN h (3, Int32.toNatClampNeg 400) (Int32.toNatClampNeg 400)) a 0 (some (hn h)))) :
    Ex X PG (d + 1) 1 0 [some (.ref a)] [] h Q := wpx_ok (cut := []) 7 d 1 0 _ _ _ _ w
theorem m1c {X : Cst} {d a : Nat} {s : ST} {h : AH} {Q : Post} (hd : 1 ≤ d) (C : CT h s a (0, 8)) (k : ∀ h', HG h' (sX s a 0 3 400 400) → Q none h') : Ex X PG d 1 0 [some (.ref a)] [] h Q := by
  obtain ⟨d, rfl⟩ : ∃ e, d = e + 1 := ⟨d - 1, by omega⟩
  refine v1_0 ?_
  rw [tcN_400]
  exact ⟨by decide, by decide, (C.x (k := 0)).1, k _ (C.x (t := 3) (n := 400) (z := 400) (k := 0)).2.1⟩
def c12 (a : Nat) (s : ST) : ST := (sX (sX (sX (sX (sX s a 0 1 4 4) a 1 1 4 4) a 2 1 4 4) a 3 1 4 4) a 4 1 4 4)
theorem v12_0 {X : Cst} {d : Nat} {a : Nat} {h : AH} {Q : Post}
  (w : Ex X PG (d + 1) 12 4 [some (.ref a)] [] h Q) :
    Ex X PG (d + 1) 12 0 [some (.ref a)] [] h Q := wpx_ok (cut := [4]) 2 d 12 0 _ _ _ _ w
theorem v12_4 {X : Cst} {d : Nat} {a : Nat} {h : AH} {Q : Post}
  (w : ¬ (4 : Int32) < 0 ∧ Int32.toNatClampNeg 4 ≤ 1000000 ∧ hs (aN h (1, Int32.toNatClampNeg 4) (Int32.toNatClampNeg 4)) a = (0, 9) ∧ Ex X PG (d + 1) 12 11 [some (.ref a)] [] (wR (aN h (1, Int32.toNatClampNeg 4) (Int32.toNatClampNeg 4)) a 0 (some (hn h))) Q) :
    Ex X PG (d + 1) 12 4 [some (.ref a)] [] h Q := wpx_ok (cut := [11]) 4 d 12 4 _ _ _ _ w
theorem v12_11 {X : Cst} {d : Nat} {a : Nat} {h : AH} {Q : Post}
  (w : ¬ (4 : Int32) < 0 ∧ Int32.toNatClampNeg 4 ≤ 1000000 ∧ hs (aN h (1, Int32.toNatClampNeg 4) (Int32.toNatClampNeg 4)) a = (0, 9) ∧ Ex X PG (d + 1) 12 18 [some (.ref a)] [] (wR (aN h (1, Int32.toNatClampNeg 4) (Int32.toNatClampNeg 4)) a 1 (some (hn h))) Q) :
    Ex X PG (d + 1) 12 11 [some (.ref a)] [] h Q := wpx_ok (cut := [18]) 4 d 12 11 _ _ _ _ w
theorem v12_18 {X : Cst} {d : Nat} {a : Nat} {h : AH} {Q : Post}
  (w : ¬ (4 : Int32) < 0 ∧ Int32.toNatClampNeg 4 ≤ 1000000 ∧ hs (aN h (1, Int32.toNatClampNeg 4) (Int32.toNatClampNeg 4)) a = (0, 9) ∧ Ex X PG (d + 1) 12 25 [some (.ref a)] [] (wR (aN h (1, Int32.toNatClampNeg 4) (Int32.toNatClampNeg 4)) a 2 (some (hn h))) Q) :
    Ex X PG (d + 1) 12 18 [some (.ref a)] [] h Q := wpx_ok (cut := [25]) 4 d 12 18 _ _ _ _ w
theorem v12_25 {X : Cst} {d : Nat} {a : Nat} {h : AH} {Q : Post}
  (w : ¬ (4 : Int32) < 0 ∧ Int32.toNatClampNeg 4 ≤ 1000000 ∧ hs (aN h (1, Int32.toNatClampNeg 4) (Int32.toNatClampNeg 4)) a = (0, 9) ∧ Ex X PG (d + 1) 12 32 [some (.ref a)] [] (wR (aN h (1, Int32.toNatClampNeg 4) (Int32.toNatClampNeg 4)) a 3 (some (hn h))) Q) :
    Ex X PG (d + 1) 12 25 [some (.ref a)] [] h Q := wpx_ok (cut := [32]) 4 d 12 25 _ _ _ _ w
theorem v12_32 {X : Cst} {d : Nat} {a : Nat} {h : AH} {Q : Post}
  (w : ¬ (4 : Int32) < 0 ∧ Int32.toNatClampNeg 4 ≤ 1000000 ∧ hs (aN h (1, Int32.toNatClampNeg 4) (Int32.toNatClampNeg 4)) a = (0, 9) ∧ Q none (wR (aN h (1, Int32.toNatClampNeg 4) (Int32.toNatClampNeg 4)) a 4 (some (hn h)))) :
    Ex X PG (d + 1) 12 32 [some (.ref a)] [] h Q := wpx_ok (cut := []) 5 d 12 32 _ _ _ _ w
theorem m12c {X : Cst} {d a : Nat} {s : ST} {h : AH} {Q : Post} (hd : 1 ≤ d) (C : CT h s a (0, 9)) (k : ∀ h', HG h' (c12 a s) → Q none h') : Ex X PG d 12 0 [some (.ref a)] [] h Q := by
  obtain ⟨d, rfl⟩ : ∃ e, d = e + 1 := ⟨d - 1, by omega⟩
  refine v12_0 ?_
  refine v12_4 ?_
  rw [tcN_4]
  refine ⟨by decide, by decide, (C.x (k := 0)).1, ?_⟩
  replace C := (C.x (t := 1) (n := 4) (z := 4) (k := 0)).2
  refine v12_11 ?_
  rw [tcN_4]
  refine ⟨by decide, by decide, (C.x (k := 1)).1, ?_⟩
  replace C := (C.x (t := 1) (n := 4) (z := 4) (k := 1)).2
  refine v12_18 ?_
  rw [tcN_4]
  refine ⟨by decide, by decide, (C.x (k := 2)).1, ?_⟩
  replace C := (C.x (t := 1) (n := 4) (z := 4) (k := 2)).2
  refine v12_25 ?_
  rw [tcN_4]
  refine ⟨by decide, by decide, (C.x (k := 3)).1, ?_⟩
  replace C := (C.x (t := 1) (n := 4) (z := 4) (k := 3)).2
  refine v12_32 ?_
  rw [tcN_4]
  refine ⟨by decide, by decide, (C.x (k := 4)).1, ?_⟩
  replace C := (C.x (t := 1) (n := 4) (z := 4) (k := 4)).2
  exact k _ C.1
def c13 (a : Nat) (s : ST) : ST := (sX (sX (sX (sX (sX s a 0 1 4 4) a 1 1 4 4) a 2 1 4 4) a 3 1 4 4) a 4 1 12 12)
theorem v13_0 {X : Cst} {d : Nat} {a : Nat} {h : AH} {Q : Post}
  (w : Ex X PG (d + 1) 13 4 [some (.ref a)] [] h Q) :
    Ex X PG (d + 1) 13 0 [some (.ref a)] [] h Q := wpx_ok (cut := [4]) 2 d 13 0 _ _ _ _ w
theorem v13_4 {X : Cst} {d : Nat} {a : Nat} {h : AH} {Q : Post}
  (w : ¬ (4 : Int32) < 0 ∧ Int32.toNatClampNeg 4 ≤ 1000000 ∧ hs (aN h (1, Int32.toNatClampNeg 4) (Int32.toNatClampNeg 4)) a = (0, 1) ∧ Ex X PG (d + 1) 13 11 [some (.ref a)] [] (wR (aN h (1, Int32.toNatClampNeg 4) (Int32.toNatClampNeg 4)) a 0 (some (hn h))) Q) :
    Ex X PG (d + 1) 13 4 [some (.ref a)] [] h Q := wpx_ok (cut := [11]) 4 d 13 4 _ _ _ _ w
theorem v13_11 {X : Cst} {d : Nat} {a : Nat} {h : AH} {Q : Post}
  (w : ¬ (4 : Int32) < 0 ∧ Int32.toNatClampNeg 4 ≤ 1000000 ∧ hs (aN h (1, Int32.toNatClampNeg 4) (Int32.toNatClampNeg 4)) a = (0, 1) ∧ Ex X PG (d + 1) 13 18 [some (.ref a)] [] (wR (aN h (1, Int32.toNatClampNeg 4) (Int32.toNatClampNeg 4)) a 1 (some (hn h))) Q) :
    Ex X PG (d + 1) 13 11 [some (.ref a)] [] h Q := wpx_ok (cut := [18]) 4 d 13 11 _ _ _ _ w
theorem v13_18 {X : Cst} {d : Nat} {a : Nat} {h : AH} {Q : Post}
  (w : ¬ (4 : Int32) < 0 ∧ Int32.toNatClampNeg 4 ≤ 1000000 ∧ hs (aN h (1, Int32.toNatClampNeg 4) (Int32.toNatClampNeg 4)) a = (0, 1) ∧ Ex X PG (d + 1) 13 25 [some (.ref a)] [] (wR (aN h (1, Int32.toNatClampNeg 4) (Int32.toNatClampNeg 4)) a 2 (some (hn h))) Q) :
    Ex X PG (d + 1) 13 18 [some (.ref a)] [] h Q := wpx_ok (cut := [25]) 4 d 13 18 _ _ _ _ w
theorem v13_25 {X : Cst} {d : Nat} {a : Nat} {h : AH} {Q : Post}
  (w : ¬ (4 : Int32) < 0 ∧ Int32.toNatClampNeg 4 ≤ 1000000 ∧ hs (aN h (1, Int32.toNatClampNeg 4) (Int32.toNatClampNeg 4)) a = (0, 1) ∧ Ex X PG (d + 1) 13 32 [some (.ref a)] [] (wR (aN h (1, Int32.toNatClampNeg 4) (Int32.toNatClampNeg 4)) a 3 (some (hn h))) Q) :
    Ex X PG (d + 1) 13 25 [some (.ref a)] [] h Q := wpx_ok (cut := [32]) 4 d 13 25 _ _ _ _ w
theorem v13_32 {X : Cst} {d : Nat} {a : Nat} {h : AH} {Q : Post}
  (w : ¬ (12 : Int32) < 0 ∧ Int32.toNatClampNeg 12 ≤ 1000000 ∧ hs (aN h (1, Int32.toNatClampNeg 12) (Int32.toNatClampNeg 12)) a = (0, 1) ∧ Q none (wR (aN h (1, Int32.toNatClampNeg 12) (Int32.toNatClampNeg 12)) a 4 (some (hn h)))) :
    Ex X PG (d + 1) 13 32 [some (.ref a)] [] h Q := wpx_ok (cut := []) 5 d 13 32 _ _ _ _ w
theorem m13c {X : Cst} {d a : Nat} {s : ST} {h : AH} {Q : Post} (hd : 1 ≤ d) (C : CT h s a (0, 1)) (k : ∀ h', HG h' (c13 a s) → Q none h') : Ex X PG d 13 0 [some (.ref a)] [] h Q := by
  obtain ⟨d, rfl⟩ : ∃ e, d = e + 1 := ⟨d - 1, by omega⟩
  refine v13_0 ?_
  refine v13_4 ?_
  rw [tcN_4]
  refine ⟨by decide, by decide, (C.x (k := 0)).1, ?_⟩
  replace C := (C.x (t := 1) (n := 4) (z := 4) (k := 0)).2
  refine v13_11 ?_
  rw [tcN_4]
  refine ⟨by decide, by decide, (C.x (k := 1)).1, ?_⟩
  replace C := (C.x (t := 1) (n := 4) (z := 4) (k := 1)).2
  refine v13_18 ?_
  rw [tcN_4]
  refine ⟨by decide, by decide, (C.x (k := 2)).1, ?_⟩
  replace C := (C.x (t := 1) (n := 4) (z := 4) (k := 2)).2
  refine v13_25 ?_
  rw [tcN_4]
  refine ⟨by decide, by decide, (C.x (k := 3)).1, ?_⟩
  replace C := (C.x (t := 1) (n := 4) (z := 4) (k := 3)).2
  refine v13_32 ?_
  rw [tcN_12]
  refine ⟨by decide, by decide, (C.x (k := 4)).1, ?_⟩
  replace C := (C.x (t := 1) (n := 12) (z := 12) (k := 4)).2
  exact k _ C.1
def c5 (a : Nat) (s : ST) : ST := (sX (sX (sX (sX s a 0 1 400 400) a 1 1 12 12) a 2 1 12 12) a 3 2 64 64)
theorem v5_0 {X : Cst} {d : Nat} {a : Nat} {h : AH} {Q : Post}
  (w : Ex X PG (d + 1) 5 4 [some (.ref a)] [] h Q) :
    Ex X PG (d + 1) 5 0 [some (.ref a)] [] h Q := wpx_ok (cut := [4]) 2 d 5 0 _ _ _ _ w
theorem v5_4 {X : Cst} {d : Nat} {a : Nat} {h : AH} {Q : Post}
  (w : ¬ (400 : Int32) < 0 ∧ Int32.toNatClampNeg 400 ≤ 1000000 ∧ hs (aN h (1, Int32.toNatClampNeg 400) (Int32.toNatClampNeg 400)) a = (0, 4) ∧ Ex X PG (d + 1) 5 13 [some (.ref a)] [] (wR (aN h (1, Int32.toNatClampNeg 400) (Int32.toNatClampNeg 400)) a 0 (some (hn h))) Q) :
    Ex X PG (d + 1) 5 4 [some (.ref a)] [] h Q := wpx_ok (cut := [13]) 4 d 5 4 _ _ _ _ w
theorem v5_13 {X : Cst} {d : Nat} {a : Nat} {h : AH} {Q : Post}
  (w : ¬ (12 : Int32) < 0 ∧ Int32.toNatClampNeg 12 ≤ 1000000 ∧ hs (aN h (1, Int32.toNatClampNeg 12) (Int32.toNatClampNeg 12)) a = (0, 4) ∧ Ex X PG (d + 1) 5 21 [some (.ref a)] [] (wR (aN h (1, Int32.toNatClampNeg 12) (Int32.toNatClampNeg 12)) a 1 (some (hn h))) Q) :
    Ex X PG (d + 1) 5 13 [some (.ref a)] [] h Q := wpx_ok (cut := [21]) 4 d 5 13 _ _ _ _ w
theorem v5_21 {X : Cst} {d : Nat} {a : Nat} {h : AH} {Q : Post}
  (w : ¬ (12 : Int32) < 0 ∧ Int32.toNatClampNeg 12 ≤ 1000000 ∧ hs (aN h (1, Int32.toNatClampNeg 12) (Int32.toNatClampNeg 12)) a = (0, 4) ∧ Ex X PG (d + 1) 5 29 [some (.ref a)] [] (wR (aN h (1, Int32.toNatClampNeg 12) (Int32.toNatClampNeg 12)) a 2 (some (hn h))) Q) :
    Ex X PG (d + 1) 5 21 [some (.ref a)] [] h Q := wpx_ok (cut := [29]) 4 d 5 21 _ _ _ _ w
theorem v5_29 {X : Cst} {d : Nat} {a : Nat} {h : AH} {Q : Post}
  (w : ¬ (64 : Int32) < 0 ∧ Int32.toNatClampNeg 64 ≤ 1000000 ∧ hs (aN h (2, Int32.toNatClampNeg 64) (Int32.toNatClampNeg 64)) a = (0, 4) ∧ Q none (wR (aN h (2, Int32.toNatClampNeg 64) (Int32.toNatClampNeg 64)) a 3 (some (hn h)))) :
    Ex X PG (d + 1) 5 29 [some (.ref a)] [] h Q := wpx_ok (cut := []) 5 d 5 29 _ _ _ _ w
theorem m5c {X : Cst} {d a : Nat} {s : ST} {h : AH} {Q : Post} (hd : 1 ≤ d) (C : CT h s a (0, 4)) (k : ∀ h', HG h' (c5 a s) → Q none h') : Ex X PG d 5 0 [some (.ref a)] [] h Q := by
  obtain ⟨d, rfl⟩ : ∃ e, d = e + 1 := ⟨d - 1, by omega⟩
  refine v5_0 ?_
  refine v5_4 ?_
  rw [tcN_400]
  refine ⟨by decide, by decide, (C.x (k := 0)).1, ?_⟩
  replace C := (C.x (t := 1) (n := 400) (z := 400) (k := 0)).2
  refine v5_13 ?_
  rw [tcN_12]
  refine ⟨by decide, by decide, (C.x (k := 1)).1, ?_⟩
  replace C := (C.x (t := 1) (n := 12) (z := 12) (k := 1)).2
  refine v5_21 ?_
  rw [tcN_12]
  refine ⟨by decide, by decide, (C.x (k := 2)).1, ?_⟩
  replace C := (C.x (t := 1) (n := 12) (z := 12) (k := 2)).2
  refine v5_29 ?_
  rw [tcN_64]
  refine ⟨by decide, by decide, (C.x (k := 3)).1, ?_⟩
  replace C := (C.x (t := 2) (n := 64) (z := 64) (k := 3)).2
  exact k _ C.1
theorem CT.r {h : AH} {s : ST} {a b k : Nat} {x : Option Nat} {t0 : Nat × Nat} (C : CT h s a t0) : CT (wR h b k x) (sR s b k x) a t0 := ⟨C.1.rw, C.2.1, C.2.2⟩
theorem CT.i {h : AH} {s : ST} {a b k : Nat} {x : Int32} {v : Int} {t0 : Nat × Nat} (C : CT h s a t0) (e : x = J v) : CT (wI h b k x) (sI s b k v) a t0 := ⟨C.1.it e, C.2.1, C.2.2⟩
theorem CT.s {h : AH} {s : ST} {a : Nat} {t0 : Nat × Nat} (C : CT h s a t0) : hs h a = t0 := (congrFun C.1.2.1 a).trans C.2.2
theorem sX_lt {s : ST} {a k t n z c : Nat} (l : c < s.1) : (sX s a k t n z).2.1 c = s.2.1 c := by rw [sX_s, if_neg (by omega)]
theorem CT.al {h : AH} {s : ST} {a : Nat} {t t0 : Nat × Nat} {z : Nat} (C : CT h s a t0) : CT (aN h t z) (sA s t z) a t0 := ⟨C.1.al, by show a < s.1 + 1; have := C.2.1; omega, (va_up_ne _ _ (by have := C.2.1; omega)).trans C.2.2⟩
theorem CT.nw {h : AH} {s : ST} {t : Nat × Nat} {z : Nat} (H : HG h s) : CT (aN h t z) (sA s t z) s.1 t := ⟨H.al, by show s.1 < s.1 + 1; omega, va_up_self _ _ _⟩
theorem c12_s {s : ST} {w c : Nat} (l : c < s.1) : (c12 w s).2.1 c = s.2.1 c ∧ s.1 ≤ (c12 w s).1 := by
  unfold c12
  rw [sX_lt (by simp only [sX_1]; omega), sX_lt (by simp only [sX_1]; omega), sX_lt (by simp only [sX_1]; omega), sX_lt (by simp only [sX_1]; omega), sX_lt l]
  simp only [sX_1]
  exact ⟨trivial, by omega⟩
theorem v6_0 {X : Cst} {d : Nat} {a : Nat} {a1 : Nat} {a2 : Nat} {h : AH} {Q : Post}
  (w : hs h a = (0, 5) ∧ hs (wR h a 0 (some a1)) a = (0, 5) ∧ Q none (wR (wR h a 0 (some a1)) a 1 (some a2))) :
    Ex X PG (d + 1) 6 0 [some (.ref a), some (.ref a1), some (.ref a2)] [] h Q := wpx_ok (cut := []) 9 d 6 0 _ _ _ _ w
theorem v15_0 {X : Cst} {d : Nat} {a : Nat} {a1 : Nat} {h : AH} {Q : Post}
  (w : (hs h a = (0, 3) ∨ hs h a = (0, 7)) ∧ (hs (wR h a 0 (some a1)) a = (0, 3) ∨ hs (wR h a 0 (some a1)) a = (0, 7)) ∧ Q none (wI (wR h a 0 (some a1)) a 3 (-1))) :
    Ex X PG (d + 1) 15 0 [some (.ref a), some (.ref a1)] [] h Q := wpx_ok (cut := []) 9 d 15 0 _ _ _ _ w
theorem v14_0 {X : Cst} {d : Nat} {a : Nat} {a1 : Nat} {h : AH} {Q : Post}
  (w : Ex X PG d 15 0 [some (.ref a), some (.ref a1)] [] h (fun v1 h2 => v1 = none ∧
      ¬ (1 : Int32) < 0 ∧ Int32.toNatClampNeg 1 ≤ 1000000 ∧ hs (aN h2 (1, Int32.toNatClampNeg 1) (Int32.toNatClampNeg 1)) a = (0, 7) ∧ Ex X PG (d + 1) 14 12 [some (.ref a), some (.ref a1)] [] (wR (aN h2 (1, Int32.toNatClampNeg 1) (Int32.toNatClampNeg 1)) a 4 (some (hn h2))) Q)) :
    Ex X PG (d + 1) 14 0 [some (.ref a), some (.ref a1)] [] h Q := wpx_ok (cut := [12, 19]) 7 d 14 0 _ _ _ _ w
theorem v14_12 {X : Cst} {d : Nat} {a : Nat} {a1 : Nat} {h : AH} {Q : Post}
  (w : ¬ (1 : Int32) < 0 ∧ Int32.toNatClampNeg 1 ≤ 1000000 ∧ hs (aN h (1, Int32.toNatClampNeg 1) (Int32.toNatClampNeg 1)) a = (0, 7) ∧ Ex X PG (d + 1) 14 19 [some (.ref a), some (.ref a1)] [] (wR (aN h (1, Int32.toNatClampNeg 1) (Int32.toNatClampNeg 1)) a 5 (some (hn h))) Q) :
    Ex X PG (d + 1) 14 12 [some (.ref a), some (.ref a1)] [] h Q := wpx_ok (cut := [19]) 4 d 14 12 _ _ _ _ w
theorem v14_19 {X : Cst} {d : Nat} {a : Nat} {a1 : Nat} {h : AH} {Q : Post}
  (w : hs h a = (0, 7) ∧ Q none (wI h a 7 (-1))) :
    Ex X PG (d + 1) 14 19 [some (.ref a), some (.ref a1)] [] h Q := wpx_ok (cut := []) 4 d 14 19 _ _ _ _ w
theorem v16_0 {X : Cst} {d : Nat} {a : Nat} {a1 : Nat} {h : AH} {Q : Post}
  (w : Ex X PG d 15 0 [some (.ref a), some (.ref a1)] [] h (fun v1 h2 => v1 = none ∧
      ¬ (1 : Int32) < 0 ∧ Int32.toNatClampNeg 1 ≤ 1000000 ∧ hs (aN h2 (1, Int32.toNatClampNeg 1) (Int32.toNatClampNeg 1)) a = (0, 3) ∧ Ex X PG (d + 1) 16 12 [some (.ref a), some (.ref a1)] [] (wR (aN h2 (1, Int32.toNatClampNeg 1) (Int32.toNatClampNeg 1)) a 4 (some (hn h2))) Q)) :
    Ex X PG (d + 1) 16 0 [some (.ref a), some (.ref a1)] [] h Q := wpx_ok (cut := [12, 19, 26]) 7 d 16 0 _ _ _ _ w
theorem v16_12 {X : Cst} {d : Nat} {a : Nat} {a1 : Nat} {h : AH} {Q : Post}
  (w : ¬ (1 : Int32) < 0 ∧ Int32.toNatClampNeg 1 ≤ 1000000 ∧ hs (aN h (1, Int32.toNatClampNeg 1) (Int32.toNatClampNeg 1)) a = (0, 3) ∧ Ex X PG (d + 1) 16 19 [some (.ref a), some (.ref a1)] [] (wR (aN h (1, Int32.toNatClampNeg 1) (Int32.toNatClampNeg 1)) a 5 (some (hn h))) Q) :
    Ex X PG (d + 1) 16 12 [some (.ref a), some (.ref a1)] [] h Q := wpx_ok (cut := [19, 26]) 4 d 16 12 _ _ _ _ w
theorem v16_19 {X : Cst} {d : Nat} {a : Nat} {a1 : Nat} {h : AH} {Q : Post}
  (w : ¬ (1 : Int32) < 0 ∧ Int32.toNatClampNeg 1 ≤ 1000000 ∧ hs (aN h (1, Int32.toNatClampNeg 1) (Int32.toNatClampNeg 1)) a = (0, 3) ∧ Ex X PG (d + 1) 16 26 [some (.ref a), some (.ref a1)] [] (wR (aN h (1, Int32.toNatClampNeg 1) (Int32.toNatClampNeg 1)) a 6 (some (hn h))) Q) :
    Ex X PG (d + 1) 16 19 [some (.ref a), some (.ref a1)] [] h Q := wpx_ok (cut := [26]) 4 d 16 19 _ _ _ _ w
theorem v16_26 {X : Cst} {d : Nat} {a : Nat} {a1 : Nat} {h : AH} {Q : Post}
  (w : ¬ (51 : Int32) < 0 ∧ Int32.toNatClampNeg 51 ≤ 1000000 ∧ hs (aN h (1, Int32.toNatClampNeg 51) (Int32.toNatClampNeg 51)) a = (0, 3) ∧ Q none (wR (aN h (1, Int32.toNatClampNeg 51) (Int32.toNatClampNeg 51)) a 7 (some (hn h)))) :
    Ex X PG (d + 1) 16 26 [some (.ref a), some (.ref a1)] [] h Q := wpx_ok (cut := []) 5 d 16 26 _ _ _ _ w
theorem v11_0 {X : Cst} {d : Nat} {a : Nat} {a1 : Nat} {h : AH} {Q : Post}
  (w : Ex X PG d 12 0 [some (.ref (hn h))] [] (aN h (0, 9) 6) (fun v1 h2 => v1 = none ∧
      hs h2 a = (0, 6) ∧ Ex X PG (d + 1) 11 15 [some (.ref a), some (.ref a1)] [] (wR h2 a 1 (some (hn h))) Q)) :
    Ex X PG (d + 1) 11 0 [some (.ref a), some (.ref a1)] [] h Q := wpx_ok (cut := [15, 20, 28, 36, 44]) 7 d 11 0 _ _ _ _ w
theorem v11_15 {X : Cst} {d : Nat} {a : Nat} {a1 : Nat} {h : AH} {Q : Post}
  (w : hs h a = (0, 6) ∧ Ex X PG (d + 1) 11 20 [some (.ref a), some (.ref a1)] [] (wI h a 2 (-1)) Q) :
    Ex X PG (d + 1) 11 15 [some (.ref a), some (.ref a1)] [] h Q := wpx_ok (cut := [20]) 3 d 11 15 _ _ _ _ w
theorem v11_20 {X : Cst} {d : Nat} {a : Nat} {a1 : Nat} {h : AH} {Q : Post}
  (w : ¬ (10 : Int32) < 0 ∧ Int32.toNatClampNeg 10 ≤ 1000000 ∧ hs (aN h (1, Int32.toNatClampNeg 10) (Int32.toNatClampNeg 10)) a = (0, 6) ∧ Ex X PG (d + 1) 11 28 [some (.ref a), some (.ref a1)] [] (wR (aN h (1, Int32.toNatClampNeg 10) (Int32.toNatClampNeg 10)) a 6 (some (hn h))) Q) :
    Ex X PG (d + 1) 11 20 [some (.ref a), some (.ref a1)] [] h Q := wpx_ok (cut := [28]) 4 d 11 20 _ _ _ _ w
theorem v11_28 {X : Cst} {d : Nat} {a : Nat} {a1 : Nat} {h : AH} {Q : Post}
  (w : ¬ (10 : Int32) < 0 ∧ Int32.toNatClampNeg 10 ≤ 1000000 ∧ hs (aN h (1, Int32.toNatClampNeg 10) (Int32.toNatClampNeg 10)) a = (0, 6) ∧ Ex X PG (d + 1) 11 36 [some (.ref a), some (.ref a1)] [] (wR (aN h (1, Int32.toNatClampNeg 10) (Int32.toNatClampNeg 10)) a 7 (some (hn h))) Q) :
    Ex X PG (d + 1) 11 28 [some (.ref a), some (.ref a1)] [] h Q := wpx_ok (cut := [36]) 4 d 11 28 _ _ _ _ w
theorem v11_36 {X : Cst} {d : Nat} {a : Nat} {a1 : Nat} {h : AH} {Q : Post}
  (w : ¬ (10 : Int32) < 0 ∧ Int32.toNatClampNeg 10 ≤ 1000000 ∧ hs (aN h (1, Int32.toNatClampNeg 10) (Int32.toNatClampNeg 10)) a = (0, 6) ∧ Ex X PG (d + 1) 11 44 [some (.ref a), some (.ref a1)] [] (wR (aN h (1, Int32.toNatClampNeg 10) (Int32.toNatClampNeg 10)) a 8 (some (hn h))) Q) :
    Ex X PG (d + 1) 11 36 [some (.ref a), some (.ref a1)] [] h Q := wpx_ok (cut := [44]) 4 d 11 36 _ _ _ _ w
theorem v11_44 {X : Cst} {d : Nat} {a : Nat} {a1 : Nat} {h : AH} {Q : Post}
  (w : hs h a = (0, 6) ∧ Q none (wR h a 0 (some a1))) :
    Ex X PG (d + 1) 11 44 [some (.ref a), some (.ref a1)] [] h Q := wpx_ok (cut := []) 4 d 11 44 _ _ _ _ w
theorem v2_0 {X : Cst} {d : Nat} {a : Nat} {a1 : Nat} {h : AH} {Q : Post}
  (w : hs h a = (0, 0) ∧ Ex X PG d 3 0 [some (.ref (hn (wR h a 0 (some a1))))] [] (aN (wR h a 0 (some a1)) (0, 2) 16) (fun v1 h2 => v1 = none ∧
      hs h2 a = (0, 0) ∧ Q none (wR h2 a 1 (some (hn (wR h a 0 (some a1))))))) :
    Ex X PG (d + 1) 2 0 [some (.ref a), some (.ref a1)] [] h Q := wpx_ok (cut := []) 11 d 2 0 _ _ _ _ w
theorem m6c {X : Cst} {d a a1 a2 : Nat} {s : ST} {h : AH} {Q : Post} (hd : 1 ≤ d) (C : CT h s a (0, 5)) (k : ∀ h', HG h' (sR (sR s a 0 (some a1)) a 1 (some a2)) → Q none h') : Ex X PG d 6 0 [some (.ref a), some (.ref a1), some (.ref a2)] [] h Q := by
  obtain ⟨d, rfl⟩ : ∃ e, d = e + 1 := ⟨d - 1, by omega⟩
  exact v6_0 ⟨C.s, C.r.s, k _ C.r.r.1⟩
def c15 (a a1 : Nat) (s : ST) : ST := sI (sR s a 0 (some a1)) a 3 (-1)
theorem m15c {X : Cst} {d a a1 cl : Nat} {s : ST} {h : AH} {Q : Post} (hd : 1 ≤ d) (hc : cl = 3 ∨ cl = 7) (C : CT h s a (0, cl)) (k : ∀ h', CT h' (c15 a a1 s) a (0, cl) → Q none h') : Ex X PG d 15 0 [some (.ref a), some (.ref a1)] [] h Q := by
  obtain ⟨d, rfl⟩ : ∃ e, d = e + 1 := ⟨d - 1, by omega⟩
  have e : ∀ g s', CT g s' a (0, cl) → hs g a = (0, 3) ∨ hs g a = (0, 7) := fun g s' G => by
    rcases hc with z | z
    · rw [z] at G; exact Or.inl G.s
    · rw [z] at G; exact Or.inr G.s
  exact v15_0 ⟨e _ _ C, e _ _ C.r, k _ (C.r.i rfl)⟩
def c14 (a a1 : Nat) (s : ST) : ST := sI (sX (sX (c15 a a1 s) a 4 1 1 1) a 5 1 1 1) a 7 (-1)
theorem m14c {X : Cst} {d a a1 : Nat} {s : ST} {h : AH} {Q : Post} (hd : 2 ≤ d) (C : CT h s a (0, 7)) (k : ∀ h', HG h' (c14 a a1 s) → Q none h') : Ex X PG d 14 0 [some (.ref a), some (.ref a1)] [] h Q := by
  obtain ⟨d, rfl⟩ : ∃ e, d = e + 1 := ⟨d - 1, by omega⟩
  refine v14_0 ?_
  refine m15c (by omega) (Or.inr rfl) C (fun h2 C2 => ⟨rfl, ?_⟩)
  rw [tcN_1]
  refine ⟨by decide, by decide, (C2.x (k := 4)).1, v14_12 ?_⟩
  replace C2 := (C2.x (t := 1) (n := 1) (z := 1) (k := 4)).2
  rw [tcN_1]
  refine ⟨by decide, by decide, (C2.x (k := 5)).1, v14_19 ?_⟩
  replace C2 := (C2.x (t := 1) (n := 1) (z := 1) (k := 5)).2
  exact ⟨C2.s, k _ (C2.i rfl).1⟩
def c16 (a a1 : Nat) (s : ST) : ST := sX (sX (sX (sX (c15 a a1 s) a 4 1 1 1) a 5 1 1 1) a 6 1 1 1) a 7 1 51 51
theorem m16c {X : Cst} {d a a1 : Nat} {s : ST} {h : AH} {Q : Post} (hd : 2 ≤ d) (C : CT h s a (0, 3)) (k : ∀ h', HG h' (c16 a a1 s) → Q none h') : Ex X PG d 16 0 [some (.ref a), some (.ref a1)] [] h Q := by
  obtain ⟨d, rfl⟩ : ∃ e, d = e + 1 := ⟨d - 1, by omega⟩
  refine v16_0 ?_
  refine m15c (by omega) (Or.inl rfl) C (fun h2 C2 => ⟨rfl, ?_⟩)
  rw [tcN_1]
  refine ⟨by decide, by decide, (C2.x (k := 4)).1, v16_12 ?_⟩
  replace C2 := (C2.x (t := 1) (n := 1) (z := 1) (k := 4)).2
  rw [tcN_1]
  refine ⟨by decide, by decide, (C2.x (k := 5)).1, v16_19 ?_⟩
  replace C2 := (C2.x (t := 1) (n := 1) (z := 1) (k := 5)).2
  rw [tcN_1]
  refine ⟨by decide, by decide, (C2.x (k := 6)).1, v16_26 ?_⟩
  replace C2 := (C2.x (t := 1) (n := 1) (z := 1) (k := 6)).2
  rw [tcN_51]
  exact ⟨by decide, by decide, (C2.x (k := 7)).1, k _ (C2.x (t := 1) (n := 51) (z := 51) (k := 7)).2.1⟩
def c11 (a a1 : Nat) (s : ST) : ST := sR (sX (sX (sX (sI (sR (c12 s.1 (sA s (0, 9) 6)) a 1 (some s.1)) a 2 (-1)) a 6 1 10 10) a 7 1 10 10) a 8 1 10 10) a 0 (some a1)
theorem m11c {X : Cst} {d a a1 : Nat} {s : ST} {h : AH} {Q : Post} (hd : 2 ≤ d) (C : CT h s a (0, 6)) (k : ∀ h', HG h' (c11 a a1 s) → Q none h') : Ex X PG d 11 0 [some (.ref a), some (.ref a1)] [] h Q := by
  obtain ⟨d, rfl⟩ : ∃ e, d = e + 1 := ⟨d - 1, by omega⟩
  refine v11_0 ?_
  rw [C.1.1]
  have Ca : CT (aN h (0, 9) 6) (sA s (0, 9) 6) a (0, 6) := C.al
  refine m12c (by omega) (CT.nw C.1) (fun h2 H2 => ⟨rfl, ?_⟩)
  have q := c12_s (s := sA s (0, 9) 6) (w := s.1) (c := a) Ca.2.1
  have C2 : CT h2 (c12 s.1 (sA s (0, 9) 6)) a (0, 6) := ⟨H2, Nat.lt_of_lt_of_le Ca.2.1 q.2, q.1.trans Ca.2.2⟩
  refine ⟨C2.s, v11_15 ⟨C2.r.s, v11_20 ?_⟩⟩
  replace C2 := (C2.r (b := a) (k := 1) (x := some s.1)).i (b := a) (k := 2) (x := -1) (v := -1) rfl
  rw [tcN_10]
  refine ⟨by decide, by decide, (C2.x (k := 6)).1, v11_28 ?_⟩
  replace C2 := (C2.x (t := 1) (n := 10) (z := 10) (k := 6)).2
  rw [tcN_10]
  refine ⟨by decide, by decide, (C2.x (k := 7)).1, v11_36 ?_⟩
  replace C2 := (C2.x (t := 1) (n := 10) (z := 10) (k := 7)).2
  rw [tcN_10]
  refine ⟨by decide, by decide, (C2.x (k := 8)).1, v11_44 ?_⟩
  replace C2 := (C2.x (t := 1) (n := 10) (z := 10) (k := 8)).2
  exact ⟨C2.s, k _ C2.r.1⟩
def c2 (a a1 : Nat) (s : ST) : ST := sR (cPlan s.1 (sA (sR s a 0 (some a1)) (0, 2) 16)) a 1 (some s.1)
theorem m2c {X : Cst} {d a a1 : Nat} {s : ST} {h : AH} {Q : Post} (hd : 3 ≤ d) (C : CT h s a (0, 0)) (k : ∀ h', HG h' (c2 a a1 s) → Q none h') : Ex X PG d 2 0 [some (.ref a), some (.ref a1)] [] h Q := by
  obtain ⟨d, rfl⟩ : ∃ e, d = e + 1 := ⟨d - 1, by omega⟩
  refine v2_0 ⟨C.s, ?_⟩
  have C1 := C.r (b := a) (k := 0) (x := some a1)
  have en : hn (wR h a 0 (some a1)) = s.1 := C.1.1
  rw [en]
  refine m3c (s := sA (sR s a 0 (some a1)) (0, 2) 16) (by omega) (CT.nw C1.1) rfl (fun h2 H2 => ⟨rfl, ?_, k _ H2.rw⟩)
  have : (cPlan s.1 (sA (sR s a 0 (some a1)) (0, 2) 16)).2.1 a = (0, 0) := by
    show (cPl0 s.1 (sA (sR s a 0 (some a1)) (0, 2) 16)).2.1 a = (0, 0)
    have l := C.2.1
    rw [cPl0_s rfl, if_neg (by omega), if_neg (by omega), if_neg (by omega), if_neg (by omega), if_neg (by omega), if_neg (by omega), if_neg (by omega), if_neg (by omega), if_neg (by omega), if_neg (by omega)]
    exact C1.al.2.2
  exact (congrFun H2.2.1 a).trans this
theorem v7_0 {X : Cst} {d : Nat} {a : Nat} {h : AH} {Q : Post}
  (w : hs h a = (0, 4) ∧ Ex X PG d 8 0 [some (.ref a)] [] h (fun v1 h2 => v1 = none ∧
      hs h2 a = (0, 4) ∧ Ex X PG d 9 0 [some (.ref a), some (.int 1), some (.int 1)] [] h2 (fun v3 h4 => v3 = none ∧
        hs h4 a = (0, 4) ∧ hs h4 a = (0, 4) ∧ Ex X PG d 10 0 [some (.ref a), some (.int (hI h4 a 4))] [] h4 (fun v5 h6 => v5 = none ∧
          Q none h6)))) :
    Ex X PG (d + 1) 7 0 [some (.ref a)] [] h Q := wpx_ok (cut := []) 11 d 7 0 _ _ _ _ w
theorem v8_0 {X : Cst} {d : Nat} {a : Nat} {h : AH} {Q : Post}
  (w : hs h a = (0, 4) ∧ hs (wI h a 4 0) a = (0, 4) ∧ Q none (wI (wI h a 4 0) a 5 0)) :
    Ex X PG (d + 1) 8 0 [some (.ref a)] [] h Q := wpx_ok (cut := []) 7 d 8 0 _ _ _ _ w
theorem v9_0 {X : Cst} {d : Nat} {a : Nat} {x1 : Int32} {x2 : Int32} {h : AH} {Q : Post}
  (w : hs h a = (0, 4) ∧ ((400 ≤ hI h a 4 →
      Q none h) ∧
    (¬ (400 ≤ hI h a 4) →
      hs h a = (0, 4) ∧ ∃ q1, hR h a 0 = some q1 ∧ hs h a = (0, 4) ∧ (hs h q1).1 = 1 ∧ ix (hI h a 4) (hs h q1).2 ∧ Ex X PG (d + 1) 9 24 [some (.ref a), some (.int x1), some (.int x2)] [] (wI h q1 (Int32.toNatClampNeg (hI h a 4)) ((x2 <<< (4 &&& 31)) ||| x1)) Q))) :
    Ex X PG (d + 1) 9 0 [some (.ref a), some (.int x1), some (.int x2)] [] h Q := wpx_ok (cut := [24]) 14 d 9 0 _ _ _ _ w
theorem v9_24 {X : Cst} {d : Nat} {a : Nat} {x1 : Int32} {x2 : Int32} {h : AH} {Q : Post}
  (w : hs h a = (0, 4) ∧ hs h a = (0, 4) ∧ Q none (wI h a 4 ((hI h a 4) + 1))) :
    Ex X PG (d + 1) 9 24 [some (.ref a), some (.int x1), some (.int x2)] [] h Q := wpx_ok (cut := []) 7 d 9 24 _ _ _ _ w
theorem v10_0 {X : Cst} {d : Nat} {a : Nat} {x1 : Int32} {h : AH} {Q : Post}
  (w : hs h a = (0, 4) ∧ ((12 ≤ hI h a 5 →
      Q none h) ∧
    (¬ (12 ≤ hI h a 5) →
      hs h a = (0, 4) ∧ ∃ q1, hR h a 1 = some q1 ∧ hs h a = (0, 4) ∧ (hs h q1).1 = 1 ∧ ix (hI h a 5) (hs h q1).2 ∧ Ex X PG (d + 1) 10 19 [some (.ref a), some (.int x1)] [] (wI h q1 (Int32.toNatClampNeg (hI h a 5)) x1) Q))) :
    Ex X PG (d + 1) 10 0 [some (.ref a), some (.int x1)] [] h Q := wpx_ok (cut := [19, 32]) 10 d 10 0 _ _ _ _ w
theorem v10_19 {X : Cst} {d : Nat} {a : Nat} {x1 : Int32} {h : AH} {Q : Post}
  (w : hs h a = (0, 4) ∧ ∃ q1, hR h a 2 = some q1 ∧ hs h a = (0, 4) ∧ hs h a = (0, 4) ∧ (hs h q1).1 = 1 ∧ ix (hI h a 5) (hs h q1).2 ∧ Ex X PG (d + 1) 10 32 [some (.ref a), some (.int x1)] [] (wI h q1 (Int32.toNatClampNeg (hI h a 5)) (hI h a 4)) Q) :
    Ex X PG (d + 1) 10 19 [some (.ref a), some (.int x1)] [] h Q := wpx_ok (cut := [32]) 7 d 10 19 _ _ _ _ w
theorem v10_32 {X : Cst} {d : Nat} {a : Nat} {x1 : Int32} {h : AH} {Q : Post}
  (w : hs h a = (0, 4) ∧ hs h a = (0, 4) ∧ Q none (wI h a 5 ((hI h a 5) + 1))) :
    Ex X PG (d + 1) 10 32 [some (.ref a), some (.int x1)] [] h Q := wpx_ok (cut := []) 7 d 10 32 _ _ _ _ w
def c7 (a : Nat) (s : ST) : ST := sI (sI (sI (sI (sI (sI (sI s a 4 0) a 5 0) (a + 1) 0 17) a 4 1) (a + 2) 0 1) (a + 3) 0 1) a 5 1
theorem HG.v {h : AH} {s : ST} {c k : Nat} {v : Int} (H : HG h s) (e : s.2.2.2.1 c k = some v) : hI h c k = J v := H.2.2.2.1 c k v e
theorem sI_v {s : ST} {a k : Nat} {v : Int} : (sI s a k v).2.2.2.1 a k = some v := by
  show va_up s.2.2.2.1 a (va_up (s.2.2.2.1 a) k (some v)) a k = some v
  rw [va_up_self, va_up_self]
theorem sI_vk {s : ST} {a b k j : Nat} {v : Int} (n : ¬ (b = a ∧ j = k)) : (sI s a k v).2.2.2.1 b j = s.2.2.2.1 b j := by
  show va_up s.2.2.2.1 a (va_up (s.2.2.2.1 a) k (some v)) b j = s.2.2.2.1 b j
  by_cases q : b = a
  · rw [q, va_up_self, va_up_ne _ _ (fun z => n ⟨q, z⟩)]
  · rw [va_up_ne _ _ q]
theorem m7c {X : Cst} {d a : Nat} {s : ST} {h : AH} {Q : Post} (hd : 2 ≤ d) (C : CT h s a (0, 4)) (r0 : s.2.2.1 a 0 = some (a + 1)) (r1 : s.2.2.1 a 1 = some (a + 2)) (r2 : s.2.2.1 a 2 = some (a + 3)) (s1 : s.2.1 (a + 1) = (1, 400)) (s2 : s.2.1 (a + 2) = (1, 12)) (s3 : s.2.1 (a + 3) = (1, 12)) (k : ∀ h', HG h' (c7 a s) → Q none h') : Ex X PG d 7 0 [some (.ref a)] [] h Q := by
  obtain ⟨d, rfl⟩ : ∃ e, d = e + 2 := ⟨d - 2, by omega⟩
  have hr : ∀ (g : AH) (s' : ST), HG g s' → s'.2.2.1 = s.2.2.1 → ∀ j v, s.2.2.1 a j = some v → hR g a j = some v := fun g s' H e j v q => by rw [H.2.2.1, e]; exact q
  have hh : ∀ (g : AH) (s' : ST), HG g s' → s'.2.1 = s.2.1 → ∀ c v, s.2.1 c = v → hs g c = v := fun g s' H e c v q => by rw [H.2.1, e]; exact q
  have C1 := (C.i (b := a) (k := 4) (x := 0) (v := 0) rfl).i (b := a) (k := 5) (x := 0) (v := 0) rfl
  refine v7_0 ⟨C.s, v8_0 ⟨C.s, (C.i (b := a) (k := 4) (x := 0) (v := 0) rfl).s, rfl, C1.s, ?_⟩⟩
  generalize wI (wI h a 4 0) a 5 0 = h1 at *
  have v4 : hI h1 a 4 = 0 := C1.1.v (c := a) (k := 4) (v := 0) (by rw [sI_vk (by omega), sI_v])
  refine v9_0 ?_
  rw [v4]
  have q1 := hh h1 _ C1.1 rfl _ _ s1
  refine ⟨C1.s, fun z => absurd z (by decide), fun _ => ⟨C1.s, a + 1, hr h1 _ C1.1 rfl _ _ r0, C1.s, by rw [q1], ixs (i := 0) q1 (by omega) (by omega), ?_⟩⟩
  have C2 := C1.i (b := a + 1) (k := 0) (x := ((1 : Int32) <<< ((4 : Int32) &&& 31)) ||| 1) (v := 17) (by decide)
  have ez : Int32.toNatClampNeg 0 = 0 := by decide
  rw [ez]
  refine v9_24 ?_
  generalize wI h1 (a + 1) 0 (((1 : Int32) <<< ((4 : Int32) &&& 31)) ||| 1) = h2 at *
  have w4 : hI h2 a 4 = 0 := C2.1.v (c := a) (k := 4) (v := 0) (by rw [sI_vk (by omega), sI_vk (by omega), sI_v])
  rw [w4]
  have C3 := C2.i (b := a) (k := 4) (x := 0 + 1) (v := 1) (by decide)
  refine ⟨C2.s, C2.s, rfl, C3.s, C3.s, ?_⟩
  generalize wI h2 a 4 (0 + 1) = h3 at *
  have u4 : hI h3 a 4 = 1 := C3.1.v (c := a) (k := 4) (v := 1) sI_v
  have u5 : hI h3 a 5 = 0 := C3.1.v (c := a) (k := 5) (v := 0) (by rw [sI_vk (by omega), sI_vk (by omega), sI_v])
  rw [u4]
  refine v10_0 ?_
  rw [u5]
  have q2 := hh h3 _ C3.1 rfl _ _ s2
  refine ⟨C3.s, fun z => absurd z (by decide), fun _ => ⟨C3.s, a + 2, hr h3 _ C3.1 rfl _ _ r1, C3.s, by rw [q2], ixs (i := 0) q2 (by omega) (by omega), ?_⟩⟩
  rw [ez]
  have C4 := C3.i (b := a + 2) (k := 0) (x := 1) (v := 1) rfl
  refine v10_19 ?_
  generalize wI h3 (a + 2) 0 1 = h4 at *
  have x4 : hI h4 a 4 = 1 := C4.1.v (c := a) (k := 4) (v := 1) (by rw [sI_vk (by omega), sI_v])
  have x5 : hI h4 a 5 = 0 := C4.1.v (c := a) (k := 5) (v := 0) (by rw [sI_vk (by omega), sI_vk (by omega), sI_vk (by omega), sI_v])
  rw [x4, x5]
  have q3 := hh h4 _ C4.1 rfl _ _ s3
  refine ⟨C4.s, a + 3, hr h4 _ C4.1 rfl _ _ r2, C4.s, C4.s, by rw [q3], ixs (i := 0) q3 (by omega) (by omega), ?_⟩
  rw [ez]
  have C5 := C4.i (b := a + 3) (k := 0) (x := 1) (v := 1) rfl
  refine v10_32 ?_
  generalize wI h4 (a + 3) 0 1 = h5 at *
  have y5 : hI h5 a 5 = 0 := C5.1.v (c := a) (k := 5) (v := 0) (by rw [sI_vk (by omega), sI_vk (by omega), sI_vk (by omega), sI_vk (by omega), sI_v])
  rw [y5]
  have C6 := C5.i (b := a) (k := 5) (x := 0 + 1) (v := 1) (by decide)
  exact ⟨C5.s, C5.s, rfl, k _ C6.1⟩
