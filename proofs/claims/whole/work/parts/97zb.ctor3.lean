/-! THE REFERENCE'S CONSTRUCTOR. -/
def g0 (_a : Nat) (s : ST) : ST := s
def g1 (a : Nat) (s : ST) : ST := sX (g0 a s) a 0 3 400 400
def g2 (a : Nat) (s : ST) : ST := sX (g1 a s) a 3 1 2400 2400
def g3 (a : Nat) (s : ST) : ST := sX (g2 a s) a 4 1 7 7
def g4 (a : Nat) (s : ST) : ST := sX (g3 a s) a 5 1 288 288
def g5 (a : Nat) (s : ST) : ST := sX (g4 a s) a 6 1 6 6
def g6 (a : Nat) (s : ST) : ST := sX (g5 a s) a 7 1 84 84
def g7 (a : Nat) (s : ST) : ST := sX (g6 a s) a 15 1 400 400
def g8 (a : Nat) (s : ST) : ST := sX (g7 a s) a 17 2 64 64
def g9 (a : Nat) (s : ST) : ST := sX (g8 a s) a 19 2 12 12
def g10 (a : Nat) (s : ST) : ST := sX (g9 a s) a 20 1 123 123
def g11 (a : Nat) (s : ST) : ST := sI (g10 a s) a 21 (-1)
def g12 (a : Nat) (s : ST) : ST := sX (g11 a s) a 23 1 8 8
def g13 (a : Nat) (s : ST) : ST := sX (g12 a s) a 24 1 4 4
def g14 (a : Nat) (s : ST) : ST := sX (g13 a s) a 25 4 4 4
def g15 (a : Nat) (s : ST) : ST := sX (g14 a s) a 26 1 680 680
def g16 (a : Nat) (s : ST) : ST := sX (g15 a s) a 28 1 34 34
def g17 (a : Nat) (s : ST) : ST := sX (g16 a s) a 29 1 32768 32768
def g18 (a : Nat) (s : ST) : ST := sX (g17 a s) a 30 1 32768 32768
def g19 (a : Nat) (s : ST) : ST := sX (g18 a s) a 36 1 4096 4096
def g20 (a : Nat) (s : ST) : ST := sX (g19 a s) a 37 4 7 7
def g21 (a : Nat) (s : ST) : ST := sX (g20 a s) a 38 1 28 28
def g22 (a : Nat) (s : ST) : ST := sX (g21 a s) a 40 1 492 492
def g23 (a : Nat) (s : ST) : ST := sX (g22 a s) a 41 1 4 4
def g24 (a : Nat) (s : ST) : ST := sX (g23 a s) a 42 1 4 4
def g25 (a : Nat) (s : ST) : ST := sX (g24 a s) a 43 4 4 4
def c168 (a : Nat) (s : ST) : ST := g25 a s
theorem tcO_4 : Int32.toNatClampNeg 4 = 4 := by decide
theorem tcO_6 : Int32.toNatClampNeg 6 = 6 := by decide
theorem tcO_7 : Int32.toNatClampNeg 7 = 7 := by decide
theorem tcO_8 : Int32.toNatClampNeg 8 = 8 := by decide
theorem tcO_12 : Int32.toNatClampNeg 12 = 12 := by decide
theorem tcO_28 : Int32.toNatClampNeg 28 = 28 := by decide
theorem tcO_34 : Int32.toNatClampNeg 34 = 34 := by decide
theorem tcO_64 : Int32.toNatClampNeg 64 = 64 := by decide
theorem tcO_84 : Int32.toNatClampNeg 84 = 84 := by decide
theorem tcO_123 : Int32.toNatClampNeg 123 = 123 := by decide
theorem tcO_288 : Int32.toNatClampNeg 288 = 288 := by decide
theorem tcO_400 : Int32.toNatClampNeg 400 = 400 := by decide
theorem tcO_492 : Int32.toNatClampNeg 492 = 492 := by decide
theorem tcO_680 : Int32.toNatClampNeg 680 = 680 := by decide
theorem tcO_2400 : Int32.toNatClampNeg 2400 = 2400 := by decide
theorem tcO_4096 : Int32.toNatClampNeg 4096 = 4096 := by decide
theorem tcO_32768 : Int32.toNatClampNeg 32768 = 32768 := by decide
theorem v168_0 {X : Cst} {d : Nat} {a : Nat} {h : AH} {Q : Post}
  (w : Ex X PG (d + 1) 168 4 [some (.ref a)] [] h Q) :
    Ex X PG (d + 1) 168 0 [some (.ref a)] [] h Q := wpx_ok (cut := [4, 13, 22, 30, 39, 47, 55, 64, 72, 80, 88, 93, 101, 108, 115, 124, 132, 140, 148, 157, 165, 173, 182, 189, 196]) 2 d 168 0 _ _ _ _ w
theorem v168_4 {X : Cst} {d : Nat} {a : Nat} {h : AH} {Q : Post}
  (w : ¬ (400 : Int32) < 0 ∧ Int32.toNatClampNeg 400 ≤ 1000000 ∧ hs (aN h (3, Int32.toNatClampNeg 400) (Int32.toNatClampNeg 400)) a = (0, 11) ∧ Ex X PG (d + 1) 168 13 [some (.ref a)] [] (wR (aN h (3, Int32.toNatClampNeg 400) (Int32.toNatClampNeg 400)) a 0 (some (hn h))) Q) :
    Ex X PG (d + 1) 168 4 [some (.ref a)] [] h Q := wpx_ok (cut := [4, 13, 22, 30, 39, 47, 55, 64, 72, 80, 88, 93, 101, 108, 115, 124, 132, 140, 148, 157, 165, 173, 182, 189, 196]) 4 d 168 4 _ _ _ _ w
theorem v168_13 {X : Cst} {d : Nat} {a : Nat} {h : AH} {Q : Post}
  (w : ¬ (2400 : Int32) < 0 ∧ Int32.toNatClampNeg 2400 ≤ 1000000 ∧ hs (aN h (1, Int32.toNatClampNeg 2400) (Int32.toNatClampNeg 2400)) a = (0, 11) ∧ Ex X PG (d + 1) 168 22 [some (.ref a)] [] (wR (aN h (1, Int32.toNatClampNeg 2400) (Int32.toNatClampNeg 2400)) a 3 (some (hn h))) Q) :
    Ex X PG (d + 1) 168 13 [some (.ref a)] [] h Q := wpx_ok (cut := [4, 13, 22, 30, 39, 47, 55, 64, 72, 80, 88, 93, 101, 108, 115, 124, 132, 140, 148, 157, 165, 173, 182, 189, 196]) 4 d 168 13 _ _ _ _ w
theorem v168_22 {X : Cst} {d : Nat} {a : Nat} {h : AH} {Q : Post}
  (w : ¬ (7 : Int32) < 0 ∧ Int32.toNatClampNeg 7 ≤ 1000000 ∧ hs (aN h (1, Int32.toNatClampNeg 7) (Int32.toNatClampNeg 7)) a = (0, 11) ∧ Ex X PG (d + 1) 168 30 [some (.ref a)] [] (wR (aN h (1, Int32.toNatClampNeg 7) (Int32.toNatClampNeg 7)) a 4 (some (hn h))) Q) :
    Ex X PG (d + 1) 168 22 [some (.ref a)] [] h Q := wpx_ok (cut := [4, 13, 22, 30, 39, 47, 55, 64, 72, 80, 88, 93, 101, 108, 115, 124, 132, 140, 148, 157, 165, 173, 182, 189, 196]) 4 d 168 22 _ _ _ _ w
theorem v168_30 {X : Cst} {d : Nat} {a : Nat} {h : AH} {Q : Post}
  (w : ¬ (288 : Int32) < 0 ∧ Int32.toNatClampNeg 288 ≤ 1000000 ∧ hs (aN h (1, Int32.toNatClampNeg 288) (Int32.toNatClampNeg 288)) a = (0, 11) ∧ Ex X PG (d + 1) 168 39 [some (.ref a)] [] (wR (aN h (1, Int32.toNatClampNeg 288) (Int32.toNatClampNeg 288)) a 5 (some (hn h))) Q) :
    Ex X PG (d + 1) 168 30 [some (.ref a)] [] h Q := wpx_ok (cut := [4, 13, 22, 30, 39, 47, 55, 64, 72, 80, 88, 93, 101, 108, 115, 124, 132, 140, 148, 157, 165, 173, 182, 189, 196]) 4 d 168 30 _ _ _ _ w
theorem v168_39 {X : Cst} {d : Nat} {a : Nat} {h : AH} {Q : Post}
  (w : ¬ (6 : Int32) < 0 ∧ Int32.toNatClampNeg 6 ≤ 1000000 ∧ hs (aN h (1, Int32.toNatClampNeg 6) (Int32.toNatClampNeg 6)) a = (0, 11) ∧ Ex X PG (d + 1) 168 47 [some (.ref a)] [] (wR (aN h (1, Int32.toNatClampNeg 6) (Int32.toNatClampNeg 6)) a 6 (some (hn h))) Q) :
    Ex X PG (d + 1) 168 39 [some (.ref a)] [] h Q := wpx_ok (cut := [4, 13, 22, 30, 39, 47, 55, 64, 72, 80, 88, 93, 101, 108, 115, 124, 132, 140, 148, 157, 165, 173, 182, 189, 196]) 4 d 168 39 _ _ _ _ w
theorem v168_47 {X : Cst} {d : Nat} {a : Nat} {h : AH} {Q : Post}
  (w : ¬ (84 : Int32) < 0 ∧ Int32.toNatClampNeg 84 ≤ 1000000 ∧ hs (aN h (1, Int32.toNatClampNeg 84) (Int32.toNatClampNeg 84)) a = (0, 11) ∧ Ex X PG (d + 1) 168 55 [some (.ref a)] [] (wR (aN h (1, Int32.toNatClampNeg 84) (Int32.toNatClampNeg 84)) a 7 (some (hn h))) Q) :
    Ex X PG (d + 1) 168 47 [some (.ref a)] [] h Q := wpx_ok (cut := [4, 13, 22, 30, 39, 47, 55, 64, 72, 80, 88, 93, 101, 108, 115, 124, 132, 140, 148, 157, 165, 173, 182, 189, 196]) 4 d 168 47 _ _ _ _ w
theorem v168_55 {X : Cst} {d : Nat} {a : Nat} {h : AH} {Q : Post}
  (w : ¬ (400 : Int32) < 0 ∧ Int32.toNatClampNeg 400 ≤ 1000000 ∧ hs (aN h (1, Int32.toNatClampNeg 400) (Int32.toNatClampNeg 400)) a = (0, 11) ∧ Ex X PG (d + 1) 168 64 [some (.ref a)] [] (wR (aN h (1, Int32.toNatClampNeg 400) (Int32.toNatClampNeg 400)) a 15 (some (hn h))) Q) :
    Ex X PG (d + 1) 168 55 [some (.ref a)] [] h Q := wpx_ok (cut := [4, 13, 22, 30, 39, 47, 55, 64, 72, 80, 88, 93, 101, 108, 115, 124, 132, 140, 148, 157, 165, 173, 182, 189, 196]) 4 d 168 55 _ _ _ _ w
theorem v168_64 {X : Cst} {d : Nat} {a : Nat} {h : AH} {Q : Post}
  (w : ¬ (64 : Int32) < 0 ∧ Int32.toNatClampNeg 64 ≤ 1000000 ∧ hs (aN h (2, Int32.toNatClampNeg 64) (Int32.toNatClampNeg 64)) a = (0, 11) ∧ Ex X PG (d + 1) 168 72 [some (.ref a)] [] (wR (aN h (2, Int32.toNatClampNeg 64) (Int32.toNatClampNeg 64)) a 17 (some (hn h))) Q) :
    Ex X PG (d + 1) 168 64 [some (.ref a)] [] h Q := wpx_ok (cut := [4, 13, 22, 30, 39, 47, 55, 64, 72, 80, 88, 93, 101, 108, 115, 124, 132, 140, 148, 157, 165, 173, 182, 189, 196]) 4 d 168 64 _ _ _ _ w
theorem v168_72 {X : Cst} {d : Nat} {a : Nat} {h : AH} {Q : Post}
  (w : ¬ (12 : Int32) < 0 ∧ Int32.toNatClampNeg 12 ≤ 1000000 ∧ hs (aN h (2, Int32.toNatClampNeg 12) (Int32.toNatClampNeg 12)) a = (0, 11) ∧ Ex X PG (d + 1) 168 80 [some (.ref a)] [] (wR (aN h (2, Int32.toNatClampNeg 12) (Int32.toNatClampNeg 12)) a 19 (some (hn h))) Q) :
    Ex X PG (d + 1) 168 72 [some (.ref a)] [] h Q := wpx_ok (cut := [4, 13, 22, 30, 39, 47, 55, 64, 72, 80, 88, 93, 101, 108, 115, 124, 132, 140, 148, 157, 165, 173, 182, 189, 196]) 4 d 168 72 _ _ _ _ w
theorem v168_80 {X : Cst} {d : Nat} {a : Nat} {h : AH} {Q : Post}
  (w : ¬ (123 : Int32) < 0 ∧ Int32.toNatClampNeg 123 ≤ 1000000 ∧ hs (aN h (1, Int32.toNatClampNeg 123) (Int32.toNatClampNeg 123)) a = (0, 11) ∧ Ex X PG (d + 1) 168 88 [some (.ref a)] [] (wR (aN h (1, Int32.toNatClampNeg 123) (Int32.toNatClampNeg 123)) a 20 (some (hn h))) Q) :
    Ex X PG (d + 1) 168 80 [some (.ref a)] [] h Q := wpx_ok (cut := [4, 13, 22, 30, 39, 47, 55, 64, 72, 80, 88, 93, 101, 108, 115, 124, 132, 140, 148, 157, 165, 173, 182, 189, 196]) 4 d 168 80 _ _ _ _ w
theorem v168_88 {X : Cst} {d : Nat} {a : Nat} {h : AH} {Q : Post}
  (w : hs h a = (0, 11) ∧ Ex X PG (d + 1) 168 93 [some (.ref a)] [] (wI h a 21 (-1)) Q) :
    Ex X PG (d + 1) 168 88 [some (.ref a)] [] h Q := wpx_ok (cut := [4, 13, 22, 30, 39, 47, 55, 64, 72, 80, 88, 93, 101, 108, 115, 124, 132, 140, 148, 157, 165, 173, 182, 189, 196]) 3 d 168 88 _ _ _ _ w
theorem v168_93 {X : Cst} {d : Nat} {a : Nat} {h : AH} {Q : Post}
  (w : ¬ (8 : Int32) < 0 ∧ Int32.toNatClampNeg 8 ≤ 1000000 ∧ hs (aN h (1, Int32.toNatClampNeg 8) (Int32.toNatClampNeg 8)) a = (0, 11) ∧ Ex X PG (d + 1) 168 101 [some (.ref a)] [] (wR (aN h (1, Int32.toNatClampNeg 8) (Int32.toNatClampNeg 8)) a 23 (some (hn h))) Q) :
    Ex X PG (d + 1) 168 93 [some (.ref a)] [] h Q := wpx_ok (cut := [4, 13, 22, 30, 39, 47, 55, 64, 72, 80, 88, 93, 101, 108, 115, 124, 132, 140, 148, 157, 165, 173, 182, 189, 196]) 4 d 168 93 _ _ _ _ w
theorem v168_101 {X : Cst} {d : Nat} {a : Nat} {h : AH} {Q : Post}
  (w : ¬ (4 : Int32) < 0 ∧ Int32.toNatClampNeg 4 ≤ 1000000 ∧ hs (aN h (1, Int32.toNatClampNeg 4) (Int32.toNatClampNeg 4)) a = (0, 11) ∧ Ex X PG (d + 1) 168 108 [some (.ref a)] [] (wR (aN h (1, Int32.toNatClampNeg 4) (Int32.toNatClampNeg 4)) a 24 (some (hn h))) Q) :
    Ex X PG (d + 1) 168 101 [some (.ref a)] [] h Q := wpx_ok (cut := [4, 13, 22, 30, 39, 47, 55, 64, 72, 80, 88, 93, 101, 108, 115, 124, 132, 140, 148, 157, 165, 173, 182, 189, 196]) 4 d 168 101 _ _ _ _ w
theorem v168_108 {X : Cst} {d : Nat} {a : Nat} {h : AH} {Q : Post}
  (w : ¬ (4 : Int32) < 0 ∧ Int32.toNatClampNeg 4 ≤ 1000000 ∧ hs (aN h (4, Int32.toNatClampNeg 4) (Int32.toNatClampNeg 4)) a = (0, 11) ∧ Ex X PG (d + 1) 168 115 [some (.ref a)] [] (wR (aN h (4, Int32.toNatClampNeg 4) (Int32.toNatClampNeg 4)) a 25 (some (hn h))) Q) :
    Ex X PG (d + 1) 168 108 [some (.ref a)] [] h Q := wpx_ok (cut := [4, 13, 22, 30, 39, 47, 55, 64, 72, 80, 88, 93, 101, 108, 115, 124, 132, 140, 148, 157, 165, 173, 182, 189, 196]) 4 d 168 108 _ _ _ _ w
theorem v168_115 {X : Cst} {d : Nat} {a : Nat} {h : AH} {Q : Post}
  (w : ¬ (680 : Int32) < 0 ∧ Int32.toNatClampNeg 680 ≤ 1000000 ∧ hs (aN h (1, Int32.toNatClampNeg 680) (Int32.toNatClampNeg 680)) a = (0, 11) ∧ Ex X PG (d + 1) 168 124 [some (.ref a)] [] (wR (aN h (1, Int32.toNatClampNeg 680) (Int32.toNatClampNeg 680)) a 26 (some (hn h))) Q) :
    Ex X PG (d + 1) 168 115 [some (.ref a)] [] h Q := wpx_ok (cut := [4, 13, 22, 30, 39, 47, 55, 64, 72, 80, 88, 93, 101, 108, 115, 124, 132, 140, 148, 157, 165, 173, 182, 189, 196]) 4 d 168 115 _ _ _ _ w
theorem v168_124 {X : Cst} {d : Nat} {a : Nat} {h : AH} {Q : Post}
  (w : ¬ (34 : Int32) < 0 ∧ Int32.toNatClampNeg 34 ≤ 1000000 ∧ hs (aN h (1, Int32.toNatClampNeg 34) (Int32.toNatClampNeg 34)) a = (0, 11) ∧ Ex X PG (d + 1) 168 132 [some (.ref a)] [] (wR (aN h (1, Int32.toNatClampNeg 34) (Int32.toNatClampNeg 34)) a 28 (some (hn h))) Q) :
    Ex X PG (d + 1) 168 124 [some (.ref a)] [] h Q := wpx_ok (cut := [4, 13, 22, 30, 39, 47, 55, 64, 72, 80, 88, 93, 101, 108, 115, 124, 132, 140, 148, 157, 165, 173, 182, 189, 196]) 4 d 168 124 _ _ _ _ w
theorem v168_132 {X : Cst} {d : Nat} {a : Nat} {h : AH} {Q : Post}
  (w : ¬ (32768 : Int32) < 0 ∧ Int32.toNatClampNeg 32768 ≤ 1000000 ∧ hs (aN h (1, Int32.toNatClampNeg 32768) (Int32.toNatClampNeg 32768)) a = (0, 11) ∧ Ex X PG (d + 1) 168 140 [some (.ref a)] [] (wR (aN h (1, Int32.toNatClampNeg 32768) (Int32.toNatClampNeg 32768)) a 29 (some (hn h))) Q) :
    Ex X PG (d + 1) 168 132 [some (.ref a)] [] h Q := wpx_ok (cut := [4, 13, 22, 30, 39, 47, 55, 64, 72, 80, 88, 93, 101, 108, 115, 124, 132, 140, 148, 157, 165, 173, 182, 189, 196]) 4 d 168 132 _ _ _ _ w
theorem v168_140 {X : Cst} {d : Nat} {a : Nat} {h : AH} {Q : Post}
  (w : ¬ (32768 : Int32) < 0 ∧ Int32.toNatClampNeg 32768 ≤ 1000000 ∧ hs (aN h (1, Int32.toNatClampNeg 32768) (Int32.toNatClampNeg 32768)) a = (0, 11) ∧ Ex X PG (d + 1) 168 148 [some (.ref a)] [] (wR (aN h (1, Int32.toNatClampNeg 32768) (Int32.toNatClampNeg 32768)) a 30 (some (hn h))) Q) :
    Ex X PG (d + 1) 168 140 [some (.ref a)] [] h Q := wpx_ok (cut := [4, 13, 22, 30, 39, 47, 55, 64, 72, 80, 88, 93, 101, 108, 115, 124, 132, 140, 148, 157, 165, 173, 182, 189, 196]) 4 d 168 140 _ _ _ _ w
theorem v168_148 {X : Cst} {d : Nat} {a : Nat} {h : AH} {Q : Post}
  (w : ¬ (4096 : Int32) < 0 ∧ Int32.toNatClampNeg 4096 ≤ 1000000 ∧ hs (aN h (1, Int32.toNatClampNeg 4096) (Int32.toNatClampNeg 4096)) a = (0, 11) ∧ Ex X PG (d + 1) 168 157 [some (.ref a)] [] (wR (aN h (1, Int32.toNatClampNeg 4096) (Int32.toNatClampNeg 4096)) a 36 (some (hn h))) Q) :
    Ex X PG (d + 1) 168 148 [some (.ref a)] [] h Q := wpx_ok (cut := [4, 13, 22, 30, 39, 47, 55, 64, 72, 80, 88, 93, 101, 108, 115, 124, 132, 140, 148, 157, 165, 173, 182, 189, 196]) 4 d 168 148 _ _ _ _ w
theorem v168_157 {X : Cst} {d : Nat} {a : Nat} {h : AH} {Q : Post}
  (w : ¬ (7 : Int32) < 0 ∧ Int32.toNatClampNeg 7 ≤ 1000000 ∧ hs (aN h (4, Int32.toNatClampNeg 7) (Int32.toNatClampNeg 7)) a = (0, 11) ∧ Ex X PG (d + 1) 168 165 [some (.ref a)] [] (wR (aN h (4, Int32.toNatClampNeg 7) (Int32.toNatClampNeg 7)) a 37 (some (hn h))) Q) :
    Ex X PG (d + 1) 168 157 [some (.ref a)] [] h Q := wpx_ok (cut := [4, 13, 22, 30, 39, 47, 55, 64, 72, 80, 88, 93, 101, 108, 115, 124, 132, 140, 148, 157, 165, 173, 182, 189, 196]) 4 d 168 157 _ _ _ _ w
theorem v168_165 {X : Cst} {d : Nat} {a : Nat} {h : AH} {Q : Post}
  (w : ¬ (28 : Int32) < 0 ∧ Int32.toNatClampNeg 28 ≤ 1000000 ∧ hs (aN h (1, Int32.toNatClampNeg 28) (Int32.toNatClampNeg 28)) a = (0, 11) ∧ Ex X PG (d + 1) 168 173 [some (.ref a)] [] (wR (aN h (1, Int32.toNatClampNeg 28) (Int32.toNatClampNeg 28)) a 38 (some (hn h))) Q) :
    Ex X PG (d + 1) 168 165 [some (.ref a)] [] h Q := wpx_ok (cut := [4, 13, 22, 30, 39, 47, 55, 64, 72, 80, 88, 93, 101, 108, 115, 124, 132, 140, 148, 157, 165, 173, 182, 189, 196]) 4 d 168 165 _ _ _ _ w
theorem v168_173 {X : Cst} {d : Nat} {a : Nat} {h : AH} {Q : Post}
  (w : ¬ (492 : Int32) < 0 ∧ Int32.toNatClampNeg 492 ≤ 1000000 ∧ hs (aN h (1, Int32.toNatClampNeg 492) (Int32.toNatClampNeg 492)) a = (0, 11) ∧ Ex X PG (d + 1) 168 182 [some (.ref a)] [] (wR (aN h (1, Int32.toNatClampNeg 492) (Int32.toNatClampNeg 492)) a 40 (some (hn h))) Q) :
    Ex X PG (d + 1) 168 173 [some (.ref a)] [] h Q := wpx_ok (cut := [4, 13, 22, 30, 39, 47, 55, 64, 72, 80, 88, 93, 101, 108, 115, 124, 132, 140, 148, 157, 165, 173, 182, 189, 196]) 4 d 168 173 _ _ _ _ w
theorem v168_182 {X : Cst} {d : Nat} {a : Nat} {h : AH} {Q : Post}
  (w : ¬ (4 : Int32) < 0 ∧ Int32.toNatClampNeg 4 ≤ 1000000 ∧ hs (aN h (1, Int32.toNatClampNeg 4) (Int32.toNatClampNeg 4)) a = (0, 11) ∧ Ex X PG (d + 1) 168 189 [some (.ref a)] [] (wR (aN h (1, Int32.toNatClampNeg 4) (Int32.toNatClampNeg 4)) a 41 (some (hn h))) Q) :
    Ex X PG (d + 1) 168 182 [some (.ref a)] [] h Q := wpx_ok (cut := [4, 13, 22, 30, 39, 47, 55, 64, 72, 80, 88, 93, 101, 108, 115, 124, 132, 140, 148, 157, 165, 173, 182, 189, 196]) 4 d 168 182 _ _ _ _ w
theorem v168_189 {X : Cst} {d : Nat} {a : Nat} {h : AH} {Q : Post}
  (w : ¬ (4 : Int32) < 0 ∧ Int32.toNatClampNeg 4 ≤ 1000000 ∧ hs (aN h (1, Int32.toNatClampNeg 4) (Int32.toNatClampNeg 4)) a = (0, 11) ∧ Ex X PG (d + 1) 168 196 [some (.ref a)] [] (wR (aN h (1, Int32.toNatClampNeg 4) (Int32.toNatClampNeg 4)) a 42 (some (hn h))) Q) :
    Ex X PG (d + 1) 168 189 [some (.ref a)] [] h Q := wpx_ok (cut := [4, 13, 22, 30, 39, 47, 55, 64, 72, 80, 88, 93, 101, 108, 115, 124, 132, 140, 148, 157, 165, 173, 182, 189, 196]) 4 d 168 189 _ _ _ _ w
theorem v168_196 {X : Cst} {d : Nat} {a : Nat} {h : AH} {Q : Post}
  (w : ¬ (4 : Int32) < 0 ∧ Int32.toNatClampNeg 4 ≤ 1000000 ∧ hs (aN h (4, Int32.toNatClampNeg 4) (Int32.toNatClampNeg 4)) a = (0, 11) ∧ Q none (wR (aN h (4, Int32.toNatClampNeg 4) (Int32.toNatClampNeg 4)) a 43 (some (hn h)))) :
    Ex X PG (d + 1) 168 196 [some (.ref a)] [] h Q := wpx_ok (cut := [4, 13, 22, 30, 39, 47, 55, 64, 72, 80, 88, 93, 101, 108, 115, 124, 132, 140, 148, 157, 165, 173, 182, 189, 196]) 5 d 168 196 _ _ _ _ w
theorem m168c {X : Cst} {d a : Nat} {s : ST} {h : AH} {Q : Post} (hd : 1 ≤ d) (C : CT h s a (0, 11)) (k : ∀ h', HG h' (c168 a s) → Q none h') : Ex X PG d 168 0 [some (.ref a)] [] h Q := by
  obtain ⟨d, rfl⟩ : ∃ e, d = e + 1 := ⟨d - 1, by omega⟩
  refine v168_0 ?_
  replace C : CT h (g0 a s) a (0, 11) := C
  refine v168_4 ?_
  rw [tcO_400]
  refine ⟨by decide, by decide, (C.x (k := 0)).1, ?_⟩
  replace C : CT (wR (aN h (3, 400) 400) a 0 (some (hn h))) (g1 a s) a (0, 11) := (C.x (t := 3) (n := 400) (z := 400) (k := 0)).2
  generalize wR (aN h (3, 400) 400) a 0 (some (hn h)) = h at *
  refine v168_13 ?_
  rw [tcO_2400]
  refine ⟨by decide, by decide, (C.x (k := 3)).1, ?_⟩
  replace C : CT (wR (aN h (1, 2400) 2400) a 3 (some (hn h))) (g2 a s) a (0, 11) := (C.x (t := 1) (n := 2400) (z := 2400) (k := 3)).2
  generalize wR (aN h (1, 2400) 2400) a 3 (some (hn h)) = h at *
  refine v168_22 ?_
  rw [tcO_7]
  refine ⟨by decide, by decide, (C.x (k := 4)).1, ?_⟩
  replace C : CT (wR (aN h (1, 7) 7) a 4 (some (hn h))) (g3 a s) a (0, 11) := (C.x (t := 1) (n := 7) (z := 7) (k := 4)).2
  generalize wR (aN h (1, 7) 7) a 4 (some (hn h)) = h at *
  refine v168_30 ?_
  rw [tcO_288]
  refine ⟨by decide, by decide, (C.x (k := 5)).1, ?_⟩
  replace C : CT (wR (aN h (1, 288) 288) a 5 (some (hn h))) (g4 a s) a (0, 11) := (C.x (t := 1) (n := 288) (z := 288) (k := 5)).2
  generalize wR (aN h (1, 288) 288) a 5 (some (hn h)) = h at *
  refine v168_39 ?_
  rw [tcO_6]
  refine ⟨by decide, by decide, (C.x (k := 6)).1, ?_⟩
  replace C : CT (wR (aN h (1, 6) 6) a 6 (some (hn h))) (g5 a s) a (0, 11) := (C.x (t := 1) (n := 6) (z := 6) (k := 6)).2
  generalize wR (aN h (1, 6) 6) a 6 (some (hn h)) = h at *
  refine v168_47 ?_
  rw [tcO_84]
  refine ⟨by decide, by decide, (C.x (k := 7)).1, ?_⟩
  replace C : CT (wR (aN h (1, 84) 84) a 7 (some (hn h))) (g6 a s) a (0, 11) := (C.x (t := 1) (n := 84) (z := 84) (k := 7)).2
  generalize wR (aN h (1, 84) 84) a 7 (some (hn h)) = h at *
  refine v168_55 ?_
  rw [tcO_400]
  refine ⟨by decide, by decide, (C.x (k := 15)).1, ?_⟩
  replace C : CT (wR (aN h (1, 400) 400) a 15 (some (hn h))) (g7 a s) a (0, 11) := (C.x (t := 1) (n := 400) (z := 400) (k := 15)).2
  generalize wR (aN h (1, 400) 400) a 15 (some (hn h)) = h at *
  refine v168_64 ?_
  rw [tcO_64]
  refine ⟨by decide, by decide, (C.x (k := 17)).1, ?_⟩
  replace C : CT (wR (aN h (2, 64) 64) a 17 (some (hn h))) (g8 a s) a (0, 11) := (C.x (t := 2) (n := 64) (z := 64) (k := 17)).2
  generalize wR (aN h (2, 64) 64) a 17 (some (hn h)) = h at *
  refine v168_72 ?_
  rw [tcO_12]
  refine ⟨by decide, by decide, (C.x (k := 19)).1, ?_⟩
  replace C : CT (wR (aN h (2, 12) 12) a 19 (some (hn h))) (g9 a s) a (0, 11) := (C.x (t := 2) (n := 12) (z := 12) (k := 19)).2
  generalize wR (aN h (2, 12) 12) a 19 (some (hn h)) = h at *
  refine v168_80 ?_
  rw [tcO_123]
  refine ⟨by decide, by decide, (C.x (k := 20)).1, ?_⟩
  replace C : CT (wR (aN h (1, 123) 123) a 20 (some (hn h))) (g10 a s) a (0, 11) := (C.x (t := 1) (n := 123) (z := 123) (k := 20)).2
  generalize wR (aN h (1, 123) 123) a 20 (some (hn h)) = h at *
  refine v168_88 ⟨C.s, ?_⟩
  replace C : CT (wI h a 21 (-1)) (g11 a s) a (0, 11) := C.i (b := a) (k := 21) (x := -1) (v := -1) rfl
  generalize wI h a 21 (-1) = h at *
  refine v168_93 ?_
  rw [tcO_8]
  refine ⟨by decide, by decide, (C.x (k := 23)).1, ?_⟩
  replace C : CT (wR (aN h (1, 8) 8) a 23 (some (hn h))) (g12 a s) a (0, 11) := (C.x (t := 1) (n := 8) (z := 8) (k := 23)).2
  generalize wR (aN h (1, 8) 8) a 23 (some (hn h)) = h at *
  refine v168_101 ?_
  rw [tcO_4]
  refine ⟨by decide, by decide, (C.x (k := 24)).1, ?_⟩
  replace C : CT (wR (aN h (1, 4) 4) a 24 (some (hn h))) (g13 a s) a (0, 11) := (C.x (t := 1) (n := 4) (z := 4) (k := 24)).2
  generalize wR (aN h (1, 4) 4) a 24 (some (hn h)) = h at *
  refine v168_108 ?_
  rw [tcO_4]
  refine ⟨by decide, by decide, (C.x (k := 25)).1, ?_⟩
  replace C : CT (wR (aN h (4, 4) 4) a 25 (some (hn h))) (g14 a s) a (0, 11) := (C.x (t := 4) (n := 4) (z := 4) (k := 25)).2
  generalize wR (aN h (4, 4) 4) a 25 (some (hn h)) = h at *
  refine v168_115 ?_
  rw [tcO_680]
  refine ⟨by decide, by decide, (C.x (k := 26)).1, ?_⟩
  replace C : CT (wR (aN h (1, 680) 680) a 26 (some (hn h))) (g15 a s) a (0, 11) := (C.x (t := 1) (n := 680) (z := 680) (k := 26)).2
  generalize wR (aN h (1, 680) 680) a 26 (some (hn h)) = h at *
  refine v168_124 ?_
  rw [tcO_34]
  refine ⟨by decide, by decide, (C.x (k := 28)).1, ?_⟩
  replace C : CT (wR (aN h (1, 34) 34) a 28 (some (hn h))) (g16 a s) a (0, 11) := (C.x (t := 1) (n := 34) (z := 34) (k := 28)).2
  generalize wR (aN h (1, 34) 34) a 28 (some (hn h)) = h at *
  refine v168_132 ?_
  rw [tcO_32768]
  refine ⟨by decide, by decide, (C.x (k := 29)).1, ?_⟩
  replace C : CT (wR (aN h (1, 32768) 32768) a 29 (some (hn h))) (g17 a s) a (0, 11) := (C.x (t := 1) (n := 32768) (z := 32768) (k := 29)).2
  generalize wR (aN h (1, 32768) 32768) a 29 (some (hn h)) = h at *
  refine v168_140 ?_
  rw [tcO_32768]
  refine ⟨by decide, by decide, (C.x (k := 30)).1, ?_⟩
  replace C : CT (wR (aN h (1, 32768) 32768) a 30 (some (hn h))) (g18 a s) a (0, 11) := (C.x (t := 1) (n := 32768) (z := 32768) (k := 30)).2
  generalize wR (aN h (1, 32768) 32768) a 30 (some (hn h)) = h at *
  refine v168_148 ?_
  rw [tcO_4096]
  refine ⟨by decide, by decide, (C.x (k := 36)).1, ?_⟩
  replace C : CT (wR (aN h (1, 4096) 4096) a 36 (some (hn h))) (g19 a s) a (0, 11) := (C.x (t := 1) (n := 4096) (z := 4096) (k := 36)).2
  generalize wR (aN h (1, 4096) 4096) a 36 (some (hn h)) = h at *
  refine v168_157 ?_
  rw [tcO_7]
  refine ⟨by decide, by decide, (C.x (k := 37)).1, ?_⟩
  replace C : CT (wR (aN h (4, 7) 7) a 37 (some (hn h))) (g20 a s) a (0, 11) := (C.x (t := 4) (n := 7) (z := 7) (k := 37)).2
  generalize wR (aN h (4, 7) 7) a 37 (some (hn h)) = h at *
  refine v168_165 ?_
  rw [tcO_28]
  refine ⟨by decide, by decide, (C.x (k := 38)).1, ?_⟩
  replace C : CT (wR (aN h (1, 28) 28) a 38 (some (hn h))) (g21 a s) a (0, 11) := (C.x (t := 1) (n := 28) (z := 28) (k := 38)).2
  generalize wR (aN h (1, 28) 28) a 38 (some (hn h)) = h at *
  refine v168_173 ?_
  rw [tcO_492]
  refine ⟨by decide, by decide, (C.x (k := 40)).1, ?_⟩
  replace C : CT (wR (aN h (1, 492) 492) a 40 (some (hn h))) (g22 a s) a (0, 11) := (C.x (t := 1) (n := 492) (z := 492) (k := 40)).2
  generalize wR (aN h (1, 492) 492) a 40 (some (hn h)) = h at *
  refine v168_182 ?_
  rw [tcO_4]
  refine ⟨by decide, by decide, (C.x (k := 41)).1, ?_⟩
  replace C : CT (wR (aN h (1, 4) 4) a 41 (some (hn h))) (g23 a s) a (0, 11) := (C.x (t := 1) (n := 4) (z := 4) (k := 41)).2
  generalize wR (aN h (1, 4) 4) a 41 (some (hn h)) = h at *
  refine v168_189 ?_
  rw [tcO_4]
  refine ⟨by decide, by decide, (C.x (k := 42)).1, ?_⟩
  replace C : CT (wR (aN h (1, 4) 4) a 42 (some (hn h))) (g24 a s) a (0, 11) := (C.x (t := 1) (n := 4) (z := 4) (k := 42)).2
  generalize wR (aN h (1, 4) 4) a 42 (some (hn h)) = h at *
  refine v168_196 ?_
  rw [tcO_4]
  refine ⟨by decide, by decide, (C.x (k := 43)).1, ?_⟩
  replace C : CT (wR (aN h (4, 4) 4) a 43 (some (hn h))) (g25 a s) a (0, 11) := (C.x (t := 4) (n := 4) (z := 4) (k := 43)).2
  exact k _ C.1
def k19 : ST := c168 256 (sA k18 (0, 11) 44)
set_option maxRecDepth 100000 in
set_option maxHeartbeats 4000000 in
theorem v290_0 {X : Cst} {d : Nat}  {h : AH} {Q : Post}
  (w : Ex X PG d 0 0 [some (.ref (hn h)), none] [] (aN h (0, 10) 16) (fun v1 h2 => v1 = none ∧
      Ex X PG d 168 0 [some (.ref (hn h2))] [] (aN h2 (0, 11) 44) (fun v3 h4 => v3 = none ∧
        Ex X PG (d + 1) 290 18 [some (.retAddr SCR), some (.ref (hn h)), some (.ref (hn h2)), some (.int 0)] [] h4 Q))) :
    Ex X PG (d + 1) 290 0 [some (.retAddr SCR), none, none, none] [] h Q := wpx_ok (cut := [18]) 10 d 290 0 _ _ _ _ w
theorem m290c {X : Cst} {d : Nat} {Q : Post} (hd : 20 ≤ d) (k : ∀ h', HG h' k19 → Ex X PG (d + 1) 290 18 [some (.retAddr SCR), some (.ref 0), some (.ref 256), some (.int 0)] [] h' Q) : Ex X PG (d + 1) 290 0 [some (.retAddr SCR), none, none, none] [] h00 Q := by
  refine v290_0 ?_
  rw [show hn h00 = 0 from rfl]
  refine m0c (by omega) HG_00.al (fun h H => ⟨rfl, ?_⟩)
  rw [H.n' (n := 256) (by decide +kernel)]
  exact m168c (by omega) ⟨H.al, by decide +kernel, by decide +kernel⟩ (fun h' H' => ⟨rfl, k h' H'⟩)
