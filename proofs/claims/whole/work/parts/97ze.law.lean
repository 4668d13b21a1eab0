/-! THE LAW, from its start to its end. -/
set_option maxRecDepth 100000 in
set_option maxHeartbeats 4000000 in
theorem v290_18 {X : Cst} {d : Nat} {a : Nat} {a1 : Nat} {a2 : Nat} {x3 : Int32} {h : AH} {Q : Post}
  (w : a = SCR ∧ (((nI X.1.1) - 6 < x3 →
      Ex X PG (d + 1) 290 997 [some (.retAddr a), some (.ref a1), some (.ref a2), some (.int x3)] [] h Q) ∧
    (¬ ((nI X.1.1) - 6 < x3) →
      a = SCR ∧ ix x3 X.1.1 ∧ (((X.1.2 (Int32.toNatClampNeg x3)) &&& 31 = nI 0 →
        Ex X PG (d + 1) 290 164 [some (.retAddr a), some (.ref a1), some (.ref a2), some (.int x3)] [] h Q) ∧ (¬ (X.1.2 (Int32.toNatClampNeg x3)) &&& 31 = nI 0 → (((X.1.2 (Int32.toNatClampNeg x3)) &&& 31 = nI 1 →
        Ex X PG (d + 1) 290 227 [some (.retAddr a), some (.ref a1), some (.ref a2), some (.int x3)] [] h Q) ∧ (¬ (X.1.2 (Int32.toNatClampNeg x3)) &&& 31 = nI 1 → (((X.1.2 (Int32.toNatClampNeg x3)) &&& 31 = nI 2 →
        Ex X PG (d + 1) 290 250 [some (.retAddr a), some (.ref a1), some (.ref a2), some (.int x3)] [] h Q) ∧ (¬ (X.1.2 (Int32.toNatClampNeg x3)) &&& 31 = nI 2 → (((X.1.2 (Int32.toNatClampNeg x3)) &&& 31 = nI 3 →
        Ex X PG (d + 1) 290 263 [some (.retAddr a), some (.ref a1), some (.ref a2), some (.int x3)] [] h Q) ∧ (¬ (X.1.2 (Int32.toNatClampNeg x3)) &&& 31 = nI 3 → (((X.1.2 (Int32.toNatClampNeg x3)) &&& 31 = nI 4 →
        Ex X PG (d + 1) 290 276 [some (.retAddr a), some (.ref a1), some (.ref a2), some (.int x3)] [] h Q) ∧ (¬ (X.1.2 (Int32.toNatClampNeg x3)) &&& 31 = nI 4 → (((X.1.2 (Int32.toNatClampNeg x3)) &&& 31 = nI 5 →
        Ex X PG (d + 1) 290 299 [some (.retAddr a), some (.ref a1), some (.ref a2), some (.int x3)] [] h Q) ∧ (¬ (X.1.2 (Int32.toNatClampNeg x3)) &&& 31 = nI 5 → (((X.1.2 (Int32.toNatClampNeg x3)) &&& 31 = nI 6 →
        Ex X PG (d + 1) 290 332 [some (.retAddr a), some (.ref a1), some (.ref a2), some (.int x3)] [] h Q) ∧ (¬ (X.1.2 (Int32.toNatClampNeg x3)) &&& 31 = nI 6 → (((X.1.2 (Int32.toNatClampNeg x3)) &&& 31 = nI 7 →
        Ex X PG (d + 1) 290 365 [some (.retAddr a), some (.ref a1), some (.ref a2), some (.int x3)] [] h Q) ∧ (¬ (X.1.2 (Int32.toNatClampNeg x3)) &&& 31 = nI 7 → (((X.1.2 (Int32.toNatClampNeg x3)) &&& 31 = nI 8 →
        Ex X PG (d + 1) 290 398 [some (.retAddr a), some (.ref a1), some (.ref a2), some (.int x3)] [] h Q) ∧ (¬ (X.1.2 (Int32.toNatClampNeg x3)) &&& 31 = nI 8 → (((X.1.2 (Int32.toNatClampNeg x3)) &&& 31 = nI 9 →
        Ex X PG (d + 1) 290 411 [some (.retAddr a), some (.ref a1), some (.ref a2), some (.int x3)] [] h Q) ∧ (¬ (X.1.2 (Int32.toNatClampNeg x3)) &&& 31 = nI 9 → (((X.1.2 (Int32.toNatClampNeg x3)) &&& 31 = nI 10 →
        Ex X PG (d + 1) 290 444 [some (.retAddr a), some (.ref a1), some (.ref a2), some (.int x3)] [] h Q) ∧ (¬ (X.1.2 (Int32.toNatClampNeg x3)) &&& 31 = nI 10 → (((X.1.2 (Int32.toNatClampNeg x3)) &&& 31 = nI 11 →
        Ex X PG (d + 1) 290 487 [some (.retAddr a), some (.ref a1), some (.ref a2), some (.int x3)] [] h Q) ∧ (¬ (X.1.2 (Int32.toNatClampNeg x3)) &&& 31 = nI 11 → (((X.1.2 (Int32.toNatClampNeg x3)) &&& 31 = nI 12 →
        Ex X PG (d + 1) 290 500 [some (.retAddr a), some (.ref a1), some (.ref a2), some (.int x3)] [] h Q) ∧ (¬ (X.1.2 (Int32.toNatClampNeg x3)) &&& 31 = nI 12 → (((X.1.2 (Int32.toNatClampNeg x3)) &&& 31 = nI 13 →
        Ex X PG (d + 1) 290 533 [some (.retAddr a), some (.ref a1), some (.ref a2), some (.int x3)] [] h Q) ∧ (¬ (X.1.2 (Int32.toNatClampNeg x3)) &&& 31 = nI 13 → (((X.1.2 (Int32.toNatClampNeg x3)) &&& 31 = nI 14 →
        Ex X PG (d + 1) 290 556 [some (.retAddr a), some (.ref a1), some (.ref a2), some (.int x3)] [] h Q) ∧ (¬ (X.1.2 (Int32.toNatClampNeg x3)) &&& 31 = nI 14 → (((X.1.2 (Int32.toNatClampNeg x3)) &&& 31 = nI 15 →
        Ex X PG (d + 1) 290 579 [some (.retAddr a), some (.ref a1), some (.ref a2), some (.int x3)] [] h Q) ∧ (¬ (X.1.2 (Int32.toNatClampNeg x3)) &&& 31 = nI 15 → (((X.1.2 (Int32.toNatClampNeg x3)) &&& 31 = nI 16 →
        Ex X PG (d + 1) 290 622 [some (.retAddr a), some (.ref a1), some (.ref a2), some (.int x3)] [] h Q) ∧ (¬ (X.1.2 (Int32.toNatClampNeg x3)) &&& 31 = nI 16 → (((X.1.2 (Int32.toNatClampNeg x3)) &&& 31 = nI 17 →
        Ex X PG (d + 1) 290 645 [some (.retAddr a), some (.ref a1), some (.ref a2), some (.int x3)] [] h Q) ∧ (¬ (X.1.2 (Int32.toNatClampNeg x3)) &&& 31 = nI 17 → (((X.1.2 (Int32.toNatClampNeg x3)) &&& 31 = nI 18 →
        Ex X PG (d + 1) 290 678 [some (.retAddr a), some (.ref a1), some (.ref a2), some (.int x3)] [] h Q) ∧ (¬ (X.1.2 (Int32.toNatClampNeg x3)) &&& 31 = nI 18 → (((X.1.2 (Int32.toNatClampNeg x3)) &&& 31 = nI 19 →
        Ex X PG (d + 1) 290 701 [some (.retAddr a), some (.ref a1), some (.ref a2), some (.int x3)] [] h Q) ∧ (¬ (X.1.2 (Int32.toNatClampNeg x3)) &&& 31 = nI 19 → (((X.1.2 (Int32.toNatClampNeg x3)) &&& 31 = nI 20 →
        Ex X PG (d + 1) 290 734 [some (.retAddr a), some (.ref a1), some (.ref a2), some (.int x3)] [] h Q) ∧ (¬ (X.1.2 (Int32.toNatClampNeg x3)) &&& 31 = nI 20 → (((X.1.2 (Int32.toNatClampNeg x3)) &&& 31 = nI 21 →
        Ex X PG (d + 1) 290 757 [some (.retAddr a), some (.ref a1), some (.ref a2), some (.int x3)] [] h Q) ∧ (¬ (X.1.2 (Int32.toNatClampNeg x3)) &&& 31 = nI 21 → (((X.1.2 (Int32.toNatClampNeg x3)) &&& 31 = nI 22 →
        Ex X PG (d + 1) 290 800 [some (.retAddr a), some (.ref a1), some (.ref a2), some (.int x3)] [] h Q) ∧ (¬ (X.1.2 (Int32.toNatClampNeg x3)) &&& 31 = nI 22 → (((X.1.2 (Int32.toNatClampNeg x3)) &&& 31 = nI 23 →
        Ex X PG (d + 1) 290 823 [some (.retAddr a), some (.ref a1), some (.ref a2), some (.int x3)] [] h Q) ∧ (¬ (X.1.2 (Int32.toNatClampNeg x3)) &&& 31 = nI 23 → (((X.1.2 (Int32.toNatClampNeg x3)) &&& 31 = nI 24 →
        Ex X PG (d + 1) 290 856 [some (.retAddr a), some (.ref a1), some (.ref a2), some (.int x3)] [] h Q) ∧ (¬ (X.1.2 (Int32.toNatClampNeg x3)) &&& 31 = nI 24 → (((X.1.2 (Int32.toNatClampNeg x3)) &&& 31 = nI 25 →
        Ex X PG (d + 1) 290 879 [some (.retAddr a), some (.ref a1), some (.ref a2), some (.int x3)] [] h Q) ∧ (¬ (X.1.2 (Int32.toNatClampNeg x3)) &&& 31 = nI 25 → (((X.1.2 (Int32.toNatClampNeg x3)) &&& 31 = nI 26 →
        Ex X PG (d + 1) 290 922 [some (.retAddr a), some (.ref a1), some (.ref a2), some (.int x3)] [] h Q) ∧ (¬ (X.1.2 (Int32.toNatClampNeg x3)) &&& 31 = nI 26 → (((X.1.2 (Int32.toNatClampNeg x3)) &&& 31 = nI 27 →
        Ex X PG (d + 1) 290 945 [some (.retAddr a), some (.ref a1), some (.ref a2), some (.int x3)] [] h Q) ∧ (¬ (X.1.2 (Int32.toNatClampNeg x3)) &&& 31 = nI 27 → (((X.1.2 (Int32.toNatClampNeg x3)) &&& 31 = nI 28 →
        Ex X PG (d + 1) 290 968 [some (.retAddr a), some (.ref a1), some (.ref a2), some (.int x3)] [] h Q) ∧ (¬ (X.1.2 (Int32.toNatClampNeg x3)) &&& 31 = nI 28 → Ex X PG (d + 1) 290 991 [some (.retAddr a), some (.ref a1), some (.ref a2), some (.int x3)] [] h Q))))))))))))))))))))))))))))))))))))))))))))))))))))))))))))) :
    Ex X PG (d + 1) 290 18 [some (.retAddr a), some (.ref a1), some (.ref a2), some (.int x3)] [] h Q := wpx_ok (cut := [18, 164, 227, 250, 263, 276, 299, 332, 365, 398, 411, 444, 487, 500, 533, 556, 579, 622, 645, 678, 701, 734, 757, 800, 823, 856, 879, 922, 945, 968, 991, 997]) 12 d 290 18 _ _ _ _ w
set_option maxRecDepth 100000 in
set_option maxHeartbeats 4000000 in
theorem v290_997 {X : Cst} {d : Nat} {a : Nat} {a1 : Nat} {a2 : Nat} {x3 : Int32} {h : AH} {Q : Post}
  (w : ((1 : Int32) = 0 ∨ (1 : Int32) = 1) ∧ Q (some (.int 1)) h) :
    Ex X PG (d + 1) 290 997 [some (.retAddr a), some (.ref a1), some (.ref a2), some (.int x3)] [] h Q := wpx_ok (cut := [18]) 2 d 290 997 _ _ _ _ w
def LawQ : Post := fun r h' => r = some (.int 1) ∧ hn h' ≤ 600000 ∧ hz h' ≤ 7302250
theorem Inv.end {h : AH} {N : Int} (I : Inv h N) (b : N ≤ 600) : hn h ≤ 600000 ∧ hz h ≤ 7302250 := by
  obtain ⟨pl, rp, iq, pl0, mk, qu, ln, pq0, co, ne, be, lp, n, Rs, a1, a2, a3, a4, a5, a6, a7, a8⟩ := I
  have l1 : ln ≤ 32768 := a1.2.2.2.2.1.1.2.2.2.2.2
  have l2 : lp ≤ 32768 := a1.2.2.2.2.2.1.1.2.2.2.2.2.2.2
  unfold Room at a8
  omega
theorem step18 {X : Cst} {d : Nat} {x3 : Int32} {h : AH} {Q : Post} {N : Int} (hX : X.2 = X2) (hd : 40 ≤ d) (hN : 0 ≤ N ∧ N ≤ 600) (ha : IxA X x3) (hx : ix x3 X.1.1) (I : Inv h N) (nl : ¬ (nI X.1.1) - 6 < x3) (K : GoOn X d x3 Q (N + 1)) : Ex X PG (d + 1) 290 18 [some (.retAddr SCR), some (.ref 0), some (.ref 256), some (.int x3)] [] h Q := by
  refine v290_18 ⟨rfl, fun z => absurd z nl, fun _ => ⟨rfl, hx, ?_⟩⟩
  refine ⟨fun _ => op164 X d x3 h Q N hX hd hN ha I K, fun _ => ?_⟩
  refine ⟨fun _ => op227 X d x3 h Q N hX hd hN ha I K, fun _ => ?_⟩
  refine ⟨fun _ => op250 X d x3 h Q N hX hd hN ha I K, fun _ => ?_⟩
  refine ⟨fun _ => op263 X d x3 h Q N hX hd hN ha I K, fun _ => ?_⟩
  refine ⟨fun _ => op276 X d x3 h Q N hX hd hN ha I K, fun _ => ?_⟩
  refine ⟨fun _ => op299 X d x3 h Q N hX hd hN ha I K, fun _ => ?_⟩
  refine ⟨fun _ => op332 X d x3 h Q N hX hd hN ha I K, fun _ => ?_⟩
  refine ⟨fun _ => op365 X d x3 h Q N hX hd hN ha I K, fun _ => ?_⟩
  refine ⟨fun _ => op398 X d x3 h Q N hX hd hN ha I K, fun _ => ?_⟩
  refine ⟨fun _ => op411 X d x3 h Q N hX hd hN ha I K, fun _ => ?_⟩
  refine ⟨fun _ => op444 X d x3 h Q N hX hd hN ha I K, fun _ => ?_⟩
  refine ⟨fun _ => op487 X d x3 h Q N hX hd hN ha I K, fun _ => ?_⟩
  refine ⟨fun _ => op500 X d x3 h Q N hX hd hN ha I K, fun _ => ?_⟩
  refine ⟨fun _ => op533 X d x3 h Q N hX hd hN ha I K, fun _ => ?_⟩
  refine ⟨fun _ => op556 X d x3 h Q N hX hd hN ha I K, fun _ => ?_⟩
  refine ⟨fun _ => op579 X d x3 h Q N hX hd hN ha I K, fun _ => ?_⟩
  refine ⟨fun _ => op622 X d x3 h Q N hX hd hN ha I K, fun _ => ?_⟩
  refine ⟨fun _ => op645 X d x3 h Q N hX hd hN ha I K, fun _ => ?_⟩
  refine ⟨fun _ => op678 X d x3 h Q N hX hd hN ha I K, fun _ => ?_⟩
  refine ⟨fun _ => op701 X d x3 h Q N hX hd hN ha I K, fun _ => ?_⟩
  refine ⟨fun _ => op734 X d x3 h Q N hX hd hN ha I K, fun _ => ?_⟩
  refine ⟨fun _ => op757 X d x3 h Q N hX hd hN ha I K, fun _ => ?_⟩
  refine ⟨fun _ => op800 X d x3 h Q N hX hd hN ha I K, fun _ => ?_⟩
  refine ⟨fun _ => op823 X d x3 h Q N hX hd hN ha I K, fun _ => ?_⟩
  refine ⟨fun _ => op856 X d x3 h Q N hX hd hN ha I K, fun _ => ?_⟩
  refine ⟨fun _ => op879 X d x3 h Q N hX hd hN ha I K, fun _ => ?_⟩
  refine ⟨fun _ => op922 X d x3 h Q N hX hd hN ha I K, fun _ => ?_⟩
  refine ⟨fun _ => op945 X d x3 h Q N hX hd hN ha I K, fun _ => ?_⟩
  refine ⟨fun _ => op968 X d x3 h Q N hX hd hN ha I K, fun _ => ?_⟩
  exact op991 X d x3 h Q N hX hd hN ha I K
theorem lawRuns : LawRuns := by
  intro L xs hL
  have lp : ∀ (m j : Nat) (h : AH), L ≤ 6 * j + 6 * m → 6 * j ≤ L → Inv h j → Ex ((L, xs), X2) PG (299 + 1) 290 18 [some (.retAddr SCR), some (.ref 0), some (.ref 256), some (.int (J (6 * (j : Int))))] [] h LawQ := by
    intro m
    induction m with
    | zero =>
      intro j h h1 h2 I
      refine v290_18 ⟨rfl, fun _ => v290_997 ⟨Or.inr rfl, rfl, I.end (by omega)⟩, fun z => absurd ?_ z⟩
      show (nI L) - 6 < _
      rw [J_nI, show (6 : Int32) = J 6 from rfl, J_sub, Jlt (by omega) (by omega)]
      omega
    | succ m ih =>
      intro j h h1 h2 I
      by_cases q : (L : Int) - 6 < 6 * (j : Int)
      · refine v290_18 ⟨rfl, fun _ => v290_997 ⟨Or.inr rfl, rfl, I.end (by omega)⟩, fun z => absurd ?_ z⟩
        show (nI L) - 6 < _
        rw [J_nI, show (6 : Int32) = J 6 from rfl, J_sub, Jlt (by omega) (by omega)]
        exact q
      · have i0 : ∀ k : Int, 0 ≤ k → k < 6 → ix (J (6 * (j : Int) + k)) L := fun k k0 k1 => ixn (by omega) (by omega)
        refine step18 (N := j) rfl (by decide) (by omega) ?_ (show ix (J (6 * (j : Int))) L from ixn (by omega) (by omega)) I ?_ (fun h' I' => ?_)
        · unfold IxA
          rw [show (1 : Int32) = J 1 from rfl, show (2 : Int32) = J 2 from rfl, show (3 : Int32) = J 3 from rfl, show (4 : Int32) = J 4 from rfl, show (5 : Int32) = J 5 from rfl, J_add, J_add, J_add, J_add, J_add]
          exact ⟨i0 1 (by decide) (by decide), i0 2 (by decide) (by decide), i0 3 (by decide) (by decide), i0 4 (by decide) (by decide), i0 5 (by decide) (by decide)⟩
        · show ¬ (nI L) - 6 < _
          rw [J_nI, show (6 : Int32) = J 6 from rfl, J_sub, Jlt (by omega) (by omega)]
          exact q
        · rw [show (6 : Int32) = J 6 from rfl, J_add]
          have e : 6 * (j : Int) + 6 = 6 * ((j + 1 : Nat) : Int) := by omega
          rw [e]
          exact ih (j + 1) h' (by omega) (by omega) I'
  refine m290c (d := 299) (by decide) (fun h H => ?_)
  exact lp (L / 6 + 1) 0 h (by omega) (by omega) (i_Inv H)
