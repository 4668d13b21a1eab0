/-! calls: a method's run on the small machine is its contract on the machine -/
section S16
/-- the words that every method asks: its own code, and all good words -/
def wsM (q : MethodName × ByteArray × Nat × Option FieldType) : List Cond := .code q.1 q.2.1 q.2.2.1 q.2.2.2 :: gws
def rmA (d mc ms : Nat) : Room := { frames := d + 10, cells := mc, slots := ms, locals := 100 * (d + 10) }
def PcA (B : Nat) (X : Cst) (sa : Nat → Nat) (cA : Nat → ClassId) (D : va_G) (As : List Value) (h : AH) : Array Value → State → Prop := fun v U => v = (As.map (cv B sa)).toArray ∧ WR B cA D U U.heap h ∧ ES B X sa cA D U ∧ U.heap.size = B + hn h
def QcA (B : Nat) (sa : Nat → Nat) (cA : Nat → ClassId) (D : va_G) (r : Option Value) (h' : AH) : Array Value → State → Outcome → State → Prop := fun _ st o t => o = .returned (r.map (cv B sa)) ∧ WR B cA D t t.heap h' ∧ va_F (fun q => B ≤ q) st t
def MetA (l : Launch) (B : Nat) (X : Cst) (sa : Nat → Nat) (cA : Nat → ClassId) (D : va_G) (d : Nat) (q : MethodName × ByteArray × Nat × Option FieldType) (As : List Value) (h : AH) (r : Option Value) (h' : AH) : Prop :=
  Met l q.1 (wsM q) (rmA d (hn h' - hn h) (hz h' - hz h)) (PcA B X sa cA D As h) (QcA B sa cA D r h') (hn h' - hn h) (hz h' - hz h) (fun q => B ≤ q)
variable {p : Program} {l : Launch} {e : Env} {R : Room} {s : State} {m : MethodId} {args : Array Value} {below : List Frame} {meth : Method} {c : Code} {H : Heap} {locs : List Loc} {cells slots : Nat} {Q : State → Prop}
variable {B n0 : Nat} {X : Cst} {sa : Nat → Nat} {cA : Nat → ClassId} {D : va_G} {own : String} {ini : Bool} {ml : Nat} {rt : Option FieldType} {cc : ByteArray} {pc : Nat} {L : Lo} {S : List Value} {h : AH} {ls : Array Slot} {lk : Lk} {hp : List Nat} {K : Cont}
theorem PcA_blind {As : List Value} : FrameBlind (PcA B X sa cA D As h) := by
  intro a U g mk ⟨q1, q2, q3, q4⟩
  exact ⟨q1, WR.moved (s := U) (U := U.calling g mk a) (Vm.Alike.refl U.vm) q2, ES.next (s := U) (U := U.calling g mk a) (H := U.heap) (locs := []) (State.WarmedH.refl U) rfl va_S.rf q3, q4⟩
theorem PcA_at {As : List Value} (hE : ES B X sa cA D s) (hW : WR B cA D s H h) (hS : va_S (fun q => B ≤ q) s.heap H locs) (hz : H.size = B + hn h) : ∀ U : State, U.heap = H → s.WarmedH U.vm → PcA B X sa cA D As h (As.map (cv B sa)).toArray U := fun U hU hWm =>
  ⟨rfl, by rw [hU]; exact hW.moved hWm.alike, hE.next hWm hU hS, by rw [hU]; exact hz⟩
theorem gws_good {w : Cond} (hw : w ∈ gws) : (w.onTables && w.keeps) = true ∨ ∃ ty, w = .arrayClass ty := good_of_word (List.mem_filter.mp hw).2
theorem wsM_good {q : MethodName × ByteArray × Nat × Option FieldType} (hq : Cond.code q.1 q.2.1 q.2.2.1 q.2.2.2 ∈ gws) : GoodIn gws (wsM q) := by
  intro w hw
  rcases List.mem_cons.mp hw with rfl | hw
  · exact ⟨hq, gws_good hq⟩
  · exact ⟨hw, gws_good hw⟩
/-- behind a call -/
theorem W.run {r : Option Value} {h' : AH} {mc ms : Nat} {st0 rest : List Value} {a : Array Value} (hr : va_Run p l e R s m args below meth c H locs cells slots mc ms (F0 m pc ls st0) rest (QcA B sa cA D r h' a) (fun q => B ≤ q)) (hS : va_S (fun q => B ≤ q) s.heap H locs)
    (kk : ∀ (H1 : Heap) (locs1 : List Loc), WR B cA D s H1 h' → va_S (fun q => B ≤ q) s.heap H1 locs1 → W p l e R s m args below meth c H1 locs1 (cells + mc) (slots + ms) Q (F0 m (pc + 3) ls ((r.map (cv B sa)).toList ++ rest))) : W p l e R s m args below meth c H locs cells slots Q (F0 m pc ls st0) := by
  intro T hT X1
  obtain ⟨v, st₀, t, T', L1, h0, X', hL1, e1, e2, ⟨hv, hw, hz, hk⟩, st⟩ := hr T hT X1
  cases hv
  rw [h0] at hz hk
  have hvm : t.vm.Alike s.vm := by rw [← e2]; exact X'.warmed.alike.symm
  obtain ⟨t2, a1, b1⟩ := kk T'.heap (locs ++ L1) (by rw [e1]; exact hw.moved hvm)
    ⟨Nat.le_trans hS.1 (by rw [e1]; exact hz), fun q h1 h2 => by rw [e1, hk q (Nat.lt_of_lt_of_le h1 hS.1) h2]; exact hS.2.1 q h1 h2, fun q hq => by
      rcases List.mem_append.mp hq with h | h
      · exact hS.2.2 q h
      · exact hL1 q h⟩ T' rfl X'
  exact ⟨t2, st t2 a1, b1⟩
theorem room_st {rest : List Value} (h8 : (rest.map Value.category).sum ≤ 8) {st : List Value} : 2 * (F0 m pc ls st).monitorRoom + ((rest.map (cv B sa)).map fun v => v.category).sum ≤ 8 := by
  have : ((rest.map (cv B sa)).map fun v => v.category) = rest.map Value.category := by rw [List.map_map]; exact List.map_congr_left (fun v _ => cv_cat B sa v)
  rw [this]
  exact lv_room h8
/-- the receiver -/
theorem recv {o ci : Nat} (hE : ES B X sa cA D s) (hW : WR B cA D s H h) (ho : hs h o = (0, ci)) (hc : ci < CL.length) : ∃ cellB : Cell, H[B + o]? = some cellB ∧ cellB.vm.isStatics = false ∧ s.vm.findClass (clN ci) = some cellB.cls := by
  obtain ⟨T, N, hcl⟩ := CL_get hc
  have hl : o < hn h := hW.ltc ho (CL_lt hcl)
  exact va_recv hE.1 hW.1 hcl (q0 := o) (by rw [RL_get hl, ent_obj ho])
/-- what a call needs of the room -/
def CRoom (R : Room) (d : Nat) : Prop := d + 11 ≤ R.frames ∧ 100 * (d + 11) ≤ R.locals
theorem len_rev {n : Nat} (hn : n ≤ S.length) : ((S.take n).reverse).length = n := by simp; omega
theorem take_map {n : Nat} : ((S.take n).reverse.map (cv B sa)).reverse = (S.map (cv B sa)).take n := by rw [← List.map_reverse, List.reverse_reverse, List.map_take]
theorem npar_e {d : String} {n : Nat} (h : npar d = some n) : ∀ sig, parseMethodDescriptor d = some sig → n = sig.parameters.length := by
  intro sig hs
  unfold npar at h
  rw [hs] at h
  exact (Option.some.inj h).symm
set_option maxRecDepth 20000 in
/-- a static call -/
theorem step_S (F : Fx p R s m args meth c B n0 X sa cA D own ini ml cc) (hc : hn h = n0 + cells) (hW : WR B cA D s H h) (hS : va_S (fun q => B ≤ q) s.heap H locs) (hlo : hasL B sa ls ml L) {k z a d : Nat} {r : Option Value} {h' : AH}
    {q : MethodName × ByteArray × Nat × Option FieldType} (hq : gMt[z]? = some q) (hqc : Cond.code q.1 q.2.1 q.2.2.1 q.2.2.2 ∈ gws) (hq40 : q.2.2.1 ≤ 40)
    (hlk : lk.2.2.1 = (a, z) :: []) (hk : rok own ini ml rt cc pc (.invokestatic k) lk hp = true) (hM : MetA l B X sa cA D d q (S.take lk.1).reverse h r h') (hg : hn h ≤ hn h' ∧ hz h ≤ hz h') (hR2 : CRoom R d) (hrm : hn h' ≤ n0 + R.cells ∧ slots + (hz h' - hz h) ≤ R.slots)
    (h8 : ((S.drop lk.1).map Value.category).sum ≤ 8) (hln : lk.1 ≤ S.length)
    (kk : Go p l e R s m args below meth c Q B n0 sa cA D ml slots h (fun pc' L' S' h1 => pc' = pc + 3 ∧ L' = L ∧ S' = r.toList ++ S.drop lk.1 ∧ h1 = h')) :
    W p l e R s m args below meth c H locs cells slots Q (F0 m pc ls (S.map (cv B sa))) := by
  obtain ⟨hx, hb, hml, hown, hts, hin, hRm, hE, hs0⟩ := F
  have hd := rk hk
  refine W.size fun hsz => ?_
  have hHs : H.size = B + hn h := by
    have h1 := hW.size (Nat.le_trans hE.2.2.2.2.2.2 hS.1)
    omega
  obtain ⟨-, hk⟩ := Bool.and_eq_true_iff.mp hk
  have hst : S.map (cv B sa) = (((S.take lk.1).reverse).map (cv B sa)).reverse ++ (S.drop lk.1).map (cv B sa) := by rw [take_map, List.map_drop, List.take_append_drop]
  have hfit : cells + (hn h' - hn h) ≤ R.cells ∧ slots + (hz h' - hz h) ≤ R.slots := by omega
  have hroom : (rmA d (hn h' - hn h) (hz h' - hz h)).frames + 1 ≤ R.frames ∧ 8 + (q.2.2.1 + 11) + (rmA d (hn h' - hn h) (hz h' - hz h)).locals ≤ R.locals := by
    have h1 : d + 11 ≤ R.frames := hR2.1
    have h2 : 100 * (d + 11) ≤ R.locals := hR2.2
    exact ⟨by show d + 10 + 1 ≤ R.frames; omega, by show 8 + (q.2.2.1 + 11) + 100 * (d + 10) ≤ R.locals; omega⟩
  have hPS : PreS s H (PcA B X sa cA D (S.take lk.1).reverse h) (((S.take lk.1).reverse).map (cv B sa)) := ⟨PcA_blind, PcA_at hE hW hS hHs⟩
  have hnl : (((S.take lk.1).reverse).map (cv B sa)).length = lk.1 := by rw [List.length_map, len_rev hln]
  have fin := fun (hr : va_Run p l e R s m args below meth c H locs cells slots (hn h' - hn h) (hz h' - hz h) (F0 m pc ls (S.map (cv B sa))) ((S.drop lk.1).map (cv B sa)) (QcA B sa cA D r h' (((S.take lk.1).reverse).map (cv B sa)).toArray) (fun q => B ≤ q)) =>
    show W p l e R s m args below meth c H locs cells slots Q (F0 m pc ls (S.map (cv B sa))) from W.run hr hS fun H1 locs1 hW1 hS1 => by
      have := kk (pc + 3) L (r.toList ++ S.drop lk.1) h' H1 locs1 (cells + (hn h' - hn h)) (slots + (hz h' - hz h)) ls ⟨rfl, rfl, rfl, rfl⟩ (by omega) rfl hW1 hS1 hlo
      rw [List.map_append] at this
      rw [show (r.map (cv B sa)).toList = r.toList.map (cv B sa) by cases r <;> rfl]
      exact this
  rw [hlk] at hk
  simp only [hq] at hk
  split at hk
  · rename_i y1 p1 p2 p3 e0 e1 e2
    obtain rfl := Option.some.inj e0
    simp only [Bool.and_eq_true, decide_eq_true_eq, okcls] at hk
    obtain ⟨⟨⟨⟨⟨k1, k1b⟩, k2⟩, k3⟩, k4⟩, k5⟩ := hk
    exact fin (va_runS (ws := wsM q) (Ts := gws) (own := own) (y := q.1) (bytes := q.2.1) (maxL := q.2.2.1) (ret := q.2.2.2) (n := lk.1) ⟨hx, hb, hml, hown, hts⟩ hM ⟨callB_of lk.1 hts (wsM_good hqc) rfl rfl rfl (hts _ (wat_in k4)) (hts _ (wat_in k3)) ⟨k1, k1b, k2⟩ hroom, hts _ (wat_in k5)⟩ hPS rfl hnl hlo.1 hst (room_st h8) hd hfit)
  · rename_i y1 p1 p2 p3 e0 e1 e2
    obtain rfl := Option.some.inj e0
    simp only [Bool.and_eq_true, decide_eq_true_eq, okcls] at hk
    obtain ⟨⟨⟨⟨⟨k1, k1b⟩, k2⟩, k3⟩, k4⟩, k5⟩ := hk
    exact fin (va_runSN (ws := wsM q) (Ts := gws) (own := own) (y := q.1) (bytes := q.2.1) (maxL := q.2.2.1) (ret := q.2.2.2) (n := lk.1) (host := "OutwardDoors") ⟨hx, hb, hml, hown, hts⟩ hM ⟨va_cnB lk.1 hts (wsM_good hqc) rfl rfl rfl (hE.2.1 _ (nat_nest k3)) (hts _ (wat_in k4)) ⟨k1, k1b, k2⟩ hroom, hts _ (wat_in k5), trivial⟩ hPS rfl hnl hlo.1 hst (room_st h8) hd hfit)
  · rename_i y1 p1 p2 p3 p4 e0 e1 e2
    obtain rfl := Option.some.inj e0
    split at hk
    · rename_i xc ow nm ds ht
      simp only [Bool.and_eq_true, decide_eq_true_eq, okcls] at hk
      obtain ⟨⟨⟨⟨⟨⟨⟨k1, k1b⟩, -⟩, k2⟩, k3⟩, k4⟩, k5⟩, k6⟩ := hk
      exact fin (run_up (ws := wsM q) (Ts := gws) (own := own) (y := q.1) (bytes := q.2.1) (maxL := q.2.2.1) (ret := q.2.2.2) (n := lk.1) (xc := xc) ⟨hx, hb, hml, hown, hts⟩ hM ⟨rfl, rfl, hroom.1, hroom.2⟩ (pay_in hts (wsM_good hqc)) List.mem_cons_self (hts _ hqc) (hts _ (wat_in k4)) ⟨k1, k1b⟩ (npar_e k2) (hts _ (wat_in k3)) (hts _ (wat_in k6)) (hts _ (wat_in k5)) hPS rfl hnl hlo.1 hst (room_st h8) hd hfit)
    · cases hk
  · cases hk
end S16
