section S17
variable {p : Program} {l : Launch} {e : Env} {R : Room} {s : State} {m : MethodId} {args : Array Value} {below : List Frame} {meth : Method} {c : Code} {H : Heap} {locs : List Loc} {cells slots : Nat} {Q : State → Prop}
variable {B n0 : Nat} {X : Cst} {sa : Nat → Nat} {cA : Nat → ClassId} {D : va_G} {own : String} {ini : Bool} {ml : Nat} {rt : Option FieldType} {cc : ByteArray} {pc : Nat} {L : Lo} {S : List Value} {h : AH} {ls : Array Slot} {lk : Lk} {hp : List Nat} {K : Cont}
theorem drop_len {n o : Nat} {r : List Value} (hdr : S.drop n = .ref o :: r) : n ≤ S.length := by
  rcases Nat.le_total n S.length with q | q
  · exact q
  · rw [List.drop_eq_nil_of_le q] at hdr
    cases hdr
theorem st_map {n o : Nat} {r : List Value} (hdr : S.drop n = .ref o :: r) : S.map (cv B sa) = (((S.take n).reverse).map (cv B sa)).reverse ++ .ref (B + o) :: r.map (cv B sa) := by
  have h1 : (S.map (cv B sa)).drop n = .ref (B + o) :: r.map (cv B sa) := by rw [← List.map_drop, hdr]; rfl
  rw [take_map, ← h1, List.take_append_drop]
set_option maxRecDepth 20000 in
/-- a constructor's call -/
theorem step_I (F : Fx p R s m args meth c B n0 X sa cA D own ini ml cc) (hc : hn h = n0 + cells) (hW : WR B cA D s H h) (hS : va_S (fun q => B ≤ q) s.heap H locs) (hlo : hasL B sa ls ml L) {k z a d o : Nat} {rs : List Value} {r : Option Value} {h' : AH}
    {q : MethodName × ByteArray × Nat × Option FieldType} (hq : gMt[z]? = some q) (hqc : Cond.code q.1 q.2.1 q.2.2.1 q.2.2.2 ∈ gws) (hq40 : q.2.2.1 ≤ 40)
    (hlk : lk.2.2.1 = (a, z) :: []) (hk : rok own ini ml rt cc pc (.invokespecial k) lk hp = true) (hdr : S.drop lk.1 = .ref o :: rs) (hM : MetA l B X sa cA D d q (.ref o :: (S.take lk.1).reverse) h r h') (hg : hn h ≤ hn h' ∧ hz h ≤ hz h') (hR2 : CRoom R d) (hrm : hn h' ≤ n0 + R.cells ∧ slots + (hz h' - hz h) ≤ R.slots)
    (h8 : (rs.map Value.category).sum ≤ 8)
    (kk : Go p l e R s m args below meth c Q B n0 sa cA D ml slots h (fun pc' L' S' h1 => pc' = pc + 3 ∧ L' = L ∧ S' = r.toList ++ rs ∧ h1 = h')) :
    W p l e R s m args below meth c H locs cells slots Q (F0 m pc ls (S.map (cv B sa))) := by
  obtain ⟨hx, hb, hml, hown, hts, hin, hRm, hE, hs0⟩ := F
  have hd := rk hk
  refine W.size fun hsz => ?_
  have hHs : H.size = B + hn h := by
    have h1 := hW.size (Nat.le_trans hE.2.2.2.2.2.2 hS.1)
    omega
  obtain ⟨-, hk⟩ := Bool.and_eq_true_iff.mp hk
  have hfit : cells + (hn h' - hn h) ≤ R.cells ∧ slots + (hz h' - hz h) ≤ R.slots := by omega
  have hroom : (rmA d (hn h' - hn h) (hz h' - hz h)).frames + 1 ≤ R.frames ∧ 8 + (q.2.2.1 + 11) + (rmA d (hn h' - hn h) (hz h' - hz h)).locals ≤ R.locals := by
    have h1 : d + 11 ≤ R.frames := hR2.1
    have h2 : 100 * (d + 11) ≤ R.locals := hR2.2
    exact ⟨by show d + 10 + 1 ≤ R.frames; omega, by show 8 + (q.2.2.1 + 11) + 100 * (d + 10) ≤ R.locals; omega⟩
  have hPS : PreS s H (PcA B X sa cA D (.ref o :: (S.take lk.1).reverse) h) (.ref (B + o) :: ((S.take lk.1).reverse).map (cv B sa)) := ⟨PcA_blind, PcA_at hE hW hS hHs⟩
  have hnl : (((S.take lk.1).reverse).map (cv B sa)).length = lk.1 := by rw [List.length_map, len_rev (drop_len hdr)]
  have fin := fun (hr : va_Run p l e R s m args below meth c H locs cells slots (hn h' - hn h) (hz h' - hz h) (F0 m pc ls (S.map (cv B sa))) (rs.map (cv B sa)) (QcA B sa cA D r h' (.ref (B + o) :: ((S.take lk.1).reverse).map (cv B sa)).toArray) (fun q => B ≤ q)) =>
    show W p l e R s m args below meth c H locs cells slots Q (F0 m pc ls (S.map (cv B sa))) from W.run hr hS fun H1 locs1 hW1 hS1 => by
      have := kk (pc + 3) L (r.toList ++ rs) h' H1 locs1 (cells + (hn h' - hn h)) (slots + (hz h' - hz h)) ls ⟨rfl, rfl, rfl, rfl⟩ (by omega) rfl hW1 hS1 hlo
      rw [List.map_append] at this
      rw [show (r.map (cv B sa)).toList = r.toList.map (cv B sa) by cases r <;> rfl]
      exact this
  rw [hlk] at hk
  simp only [hq] at hk
  split at hk
  · rename_i y1 p1 p2 p3 e0 e1 e2
    obtain rfl := Option.some.inj e0
    simp only [Bool.and_eq_true, decide_eq_true_eq, okcls] at hk
    obtain ⟨⟨⟨⟨⟨⟨k01, k02⟩, k1, k1b⟩, k2⟩, k3⟩, k4⟩, k5⟩ := hk
    rw [k02] at hqc
    have hws : wsM q = .code q.1 q.2.1 q.2.2.1 none :: gws := by unfold wsM; rw [k02]
    exact fin (va_runI (ws := wsM q) (Ts := gws) (own := own) (y := q.1) (bytes := q.2.1) (maxL := q.2.2.1) (n := lk.1) ⟨hx, hb, hml, hown, hts⟩ hM (cwI lk.1 hts (wsM_good (by rw [k02]; exact hqc)) hws rfl rfl (hts _ (wat_in k4)) (hts _ (wat_in k3)) (hts _ (wat_in k5)) k01 ⟨k1, k1b, k2⟩ hroom) hPS rfl hnl hlo.1 (st_map hdr) (room_st h8) hd hfit)
  · rename_i y1 p1 p2 p3 e0 e1 e2
    obtain rfl := Option.some.inj e0
    simp only [Bool.and_eq_true, decide_eq_true_eq, okcls] at hk
    obtain ⟨⟨⟨⟨⟨⟨k01, k02⟩, k1, k1b⟩, k2⟩, k3⟩, k4⟩, k5⟩ := hk
    have hws : wsM q = .code q.1 q.2.1 q.2.2.1 none :: gws := by unfold wsM; rw [k02]
    exact fin (va_runIN (ws := wsM q) (Ts := gws) (own := own) (y := q.1) (bytes := q.2.1) (maxL := q.2.2.1) (n := lk.1) (host := "OutwardDoors") ⟨hx, hb, hml, hown, hts⟩ hM ⟨va_cnB lk.1 hts (wsM_good hqc) hws rfl rfl (hE.2.1 _ (nat_nest k3)) (hts _ (wat_in k4)) ⟨k1, k1b, k2⟩ hroom, k01, hts _ (wat_in k5)⟩ hPS rfl hnl hlo.1 (st_map hdr) (room_st h8) hd hfit)
  · cases hk
set_option maxRecDepth 20000 in
/-- a virtual call: the receiver's class ci selects z -/
theorem step_V (F : Fx p R s m args meth c B n0 X sa cA D own ini ml cc) (hc : hn h = n0 + cells) (hW : WR B cA D s H h) (hS : va_S (fun q => B ≤ q) s.heap H locs) (hlo : hasL B sa ls ml L) {k z ci d o : Nat} {rs : List Value} {r : Option Value} {h' : AH}
    {q : MethodName × ByteArray × Nat × Option FieldType} (hq : gMt[z]? = some q) (hqc : Cond.code q.1 q.2.1 q.2.2.1 q.2.2.2 ∈ gws) (hq40 : q.2.2.1 ≤ 40)
    (hmem : (ci, z) ∈ lk.2.2.1) (ho : hs h o = (0, ci)) (hk : rok own ini ml rt cc pc (.invokevirtual k) lk hp = true) (hdr : S.drop lk.1 = .ref o :: rs) (hM : MetA l B X sa cA D d q (.ref o :: (S.take lk.1).reverse) h r h') (hg : hn h ≤ hn h' ∧ hz h ≤ hz h') (hR2 : CRoom R d) (hrm : hn h' ≤ n0 + R.cells ∧ slots + (hz h' - hz h) ≤ R.slots)
    (h8 : (rs.map Value.category).sum ≤ 8)
    (kk : Go p l e R s m args below meth c Q B n0 sa cA D ml slots h (fun pc' L' S' h1 => pc' = pc + 3 ∧ L' = L ∧ S' = r.toList ++ rs ∧ h1 = h')) :
    W p l e R s m args below meth c H locs cells slots Q (F0 m pc ls (S.map (cv B sa))) := by
  obtain ⟨hx, hb, hml, hown, hts, hin, hRm, hE, hs0⟩ := F
  have hd := rk hk
  refine W.size fun hsz => ?_
  have hHs : H.size = B + hn h := by
    have h1 := hW.size (Nat.le_trans hE.2.2.2.2.2.2 hS.1)
    omega
  obtain ⟨-, hk⟩ := Bool.and_eq_true_iff.mp hk
  have hfit : cells + (hn h' - hn h) ≤ R.cells ∧ slots + (hz h' - hz h) ≤ R.slots := by omega
  have hroom : (rmA d (hn h' - hn h) (hz h' - hz h)).frames + 1 ≤ R.frames ∧ 8 + (q.2.2.1 + 11) + (rmA d (hn h' - hn h) (hz h' - hz h)).locals ≤ R.locals := by
    have h1 : d + 11 ≤ R.frames := hR2.1
    have h2 : 100 * (d + 11) ≤ R.locals := hR2.2
    exact ⟨by show d + 10 + 1 ≤ R.frames; omega, by show 8 + (q.2.2.1 + 11) + 100 * (d + 10) ≤ R.locals; omega⟩
  have hPV := fun (hcl : ci < CL.length) => show PreV s H (clN ci) (B + o) (PcA B X sa cA D (.ref o :: (S.take lk.1).reverse) h) (((S.take lk.1).reverse).map (cv B sa)) from ⟨PcA_blind, recv hE hW ho hcl, PcA_at hE hW hS hHs⟩
  have hnl : (((S.take lk.1).reverse).map (cv B sa)).length = lk.1 := by rw [List.length_map, len_rev (drop_len hdr)]
  have fin := fun (hr : va_Run p l e R s m args below meth c H locs cells slots (hn h' - hn h) (hz h' - hz h) (F0 m pc ls (S.map (cv B sa))) (rs.map (cv B sa)) (QcA B sa cA D r h' (.ref (B + o) :: ((S.take lk.1).reverse).map (cv B sa)).toArray) (fun q => B ≤ q)) =>
    show W p l e R s m args below meth c H locs cells slots Q (F0 m pc ls (S.map (cv B sa))) from W.run hr hS fun H1 locs1 hW1 hS1 => by
      have := kk (pc + 3) L (r.toList ++ rs) h' H1 locs1 (cells + (hn h' - hn h)) (slots + (hz h' - hz h)) ls ⟨rfl, rfl, rfl, rfl⟩ (by omega) rfl hW1 hS1 hlo
      rw [List.map_append] at this
      rw [show (r.map (cv B sa)).toList = r.toList.map (cv B sa) by cases r <;> rfl]
      exact this
  simp only at hk
  split at hk
  · rename_i e1 e2; rw [e1] at hmem; cases hmem
  · rename_i c0 z0 p1 p2 p3 p4 e1 e2
    rw [e1] at hmem
    cases List.mem_singleton.mp hmem
    rw [hq] at hk
    split at hk
    · rename_i y1 e0 e3
      obtain rfl := Option.some.inj e0
      simp only [Bool.and_eq_true, decide_eq_true_eq, okcls] at hk
      obtain ⟨⟨⟨⟨⟨⟨⟨k0, k0b⟩, k1, k1b⟩, k2⟩, k3⟩, k4⟩, k5⟩, k6⟩ := hk
      rw [k0] at hPV
      exact fin (va_runV (ws := wsM q) (Ts := gws) (own := own) (C := q.1.cls) (y := q.1) (bytes := q.2.1) (maxL := q.2.2.1) (ret := q.2.2.2) (n := lk.1) ⟨hx, hb, hml, hown, hts⟩ hM ⟨callB_of lk.1 hts (wsM_good hqc) rfl rfl rfl (hts _ (wat_in k4)) (hts _ (wat_in k3)) ⟨k1, k1b, k2⟩ hroom, hts _ (wat_in k5), hts _ (wat_in k6)⟩ (hPV k0b) rfl hnl hlo.1 (st_map hdr) (room_st h8) hd hfit)
    · cases hk
  · rename_i cs p1 p2 hq3 e1 e2 e3
    split at hk
    · rename_i xc ow nm ds hw
      simp only [Bool.and_eq_true, Bool.or_eq_true, decide_eq_true_eq, okcls] at hk
      obtain ⟨⟨⟨⟨⟨⟨⟨-, k1, k1b⟩, k2⟩, k3⟩, k4⟩, k5⟩, k6⟩, k7⟩ := hk
      obtain ⟨j, hj⟩ := List.getElem?_of_mem hmem
      have hjl := (List.getElem?_eq_some_iff.mp hj).1
      have hrow := List.all_eq_true.mp k7 j (List.mem_range.mpr hjl)
      split at hrow
      · rename_i c1 a1 a2 a3 f1 f2 f3 f4
        obtain rfl := Option.some.inj (hj.symm.trans f1)
        rw [hq] at hrow
        simp only [Bool.and_eq_true, decide_eq_true_eq, Bool.or_eq_true] at hrow
        obtain ⟨⟨⟨⟨⟨r1, r2⟩, r3⟩, r4⟩, r5⟩, r6⟩ := hrow
        have hcw : va_CU R s args own (clN ci) ow k ⟨xc, nm, ds⟩ q.1 q.2.1 q.2.2.1 q.2.2.2 (wsM q) (rmA d (hn h' - hn h) (hz h' - hz h)) (hn h' - hn h) (hz h' - hz h) lk.1 := by
          refine ⟨⟨rfl, rfl, hroom.1, hroom.2, pay_in hts (wsM_good hqc), List.mem_cons_self⟩, hts _ hqc, hts _ (wat_in r6), ⟨k1, k1b⟩, npar_e k2, hts _ (wat_in k3), hts _ (wat_in k4), ?_, hts _ (wat_in r4), hts _ (wat_in r5)⟩
          rcases k5 with k5 | k5
          · rcases r2 with r2 | r2
            · omega
            · rw [← r2]
              exact va_Decl.of (hts _ (wat_in r5)) (hts _ hqc)
          · exact va_Decl.abs (hE.2.1 _ (nat_decl k5))
        exact fin (va_runU (ws := wsM q) (Ts := gws) (own := own) (C := clN ci) ⟨hx, hb, hml, hown, hts⟩ hM hcw (hPV r1) rfl hnl hlo.1 (st_map hdr) (room_st h8) hd hfit)
      · cases hrow
    · cases hk
  · cases hk
end S17
