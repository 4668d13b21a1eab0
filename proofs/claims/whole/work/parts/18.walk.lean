section S18
variable {p : Program} {l : Launch} {e : Env} {R : Room} {s : State} {m : MethodId} {args : Array Value} {below : List Frame} {meth : Method} {c : Code} {H : Heap} {locs : List Loc} {cells slots : Nat} {Q : State → Prop}
variable {B n0 : Nat} {X : Cst} {sa : Nat → Nat} {cA : Nat → ClassId} {D : va_G} {own : String} {ini : Bool} {ml : Nat} {rt : Option FieldType} {cc : ByteArray} {pc : Nat} {L : Lo} {S : List Value} {h : AH} {ls : Array Slot} {lk : Lk} {hp : List Nat} {K : Cont}
def noC (i : Instr) (lk : Lk) : Prop := match i with
  | .invokestatic _ => lk.2.2.1 = []
  | .invokespecial _ => lk.2.2.1 = []
  | .invokevirtual _ => lk.2.2.1 = []
  | _ => True
theorem step_any (F : Fx p R s m args meth c B n0 X sa cA D own ini ml cc) (hc : hn h = n0 + cells) (hW : WR B cA D s H h) (hS : va_S (fun q => B ≤ q) s.heap H locs) (hlo : hasL B sa ls ml L) {i : Instr}
    (hk : rok own ini ml rt cc pc i lk hp = true) (w : wpI X i lk pc L S h K) (kk : Go p l e R s m args below meth c Q B n0 sa cA D ml slots h K)
    (hrm : ∀ pc' L' S' h', K pc' L' S' h' → hn h' ≤ n0 + R.cells ∧ slots + (hz h' - hz h) ≤ R.slots)
    (hno : noC i lk) :
    W p l e R s m args below meth c H locs cells slots Q (F0 m pc ls (S.map (cv B sa))) := by
  have hcl : cells ≤ R.cells ∧ slots ≤ R.slots := by
    obtain ⟨pc1, L1, S1, h1, k1, g1, -⟩ := wpI_pick w
    have := hrm _ _ _ _ k1
    omega
  cases i
  all_goals first
    | exact w.elim
    | exact step_plain F hc hW hS hlo hk w kk trivial
    | exact step_arith F hc hW hS hlo hk w kk trivial
    | exact step_arr F hc hW hS hlo hk w kk trivial
    | exact step_get F hc hW hS hlo hk w kk
    | exact step_put F hc hW hS hlo hk w kk
    | exact step_new F hc hW hS hlo hk w kk hrm trivial
    | exact step_misc hcl F hc hW hS hlo hk w kk trivial
    | exact step_misc hcl F hc hW hS hlo hk w kk hno
    | exact step_str F hc hW hS hlo hcl hk w kk hno
/-- a return with r -/
def Ret (B : Nat) (sa : Nat → Nat) (q : MethodName × ByteArray × Nat × Option FieldType) (pc : Nat) (r : Option Value) (st : List Value) : Prop :=
  (∃ x, r = some (.int x) ∧ st = [.int x] ∧ decode q.2.1 pc = .ok (.ireturn, 1) ∧ (q.2.2.2 = some .int ∨ (q.2.2.2 = some .boolean ∧ (x = 0 ∨ x = 1)))) ∨
  (∃ x, r = some (.long x) ∧ st = [.long x] ∧ decode q.2.1 pc = .ok (.lreturn, 1) ∧ q.2.2.2 = some .long) ∨
  (∃ v a rt, r = some v ∧ cv B sa v = .ref a ∧ st = [.ref a] ∧ decode q.2.1 pc = .ok (.areturn, 1) ∧ q.2.2.2 = some rt ∧ ((∃ n, rt = .object n) ∨ ∃ t, rt = .array t)) ∨
  (r = none ∧ st = [] ∧ decode q.2.1 pc = .ok (.return_, 1) ∧ q.2.2.2 = none)
def NL : Nat := gMt.length - 1
/-- no row calls the law -/
def cz (r : Row) : Bool := match r.1 with
  | .invokestatic _ => r.2.2.2.1.all (fun c => decide (c.2 < NL)) && decide (r.2.2.2.1.length ≤ 1)
  | .invokespecial _ => r.2.2.2.1.all (fun c => decide (c.2 < NL)) && decide (r.2.2.2.1.length ≤ 1)
  | .invokevirtual _ => r.2.2.2.1.all fun c => decide (c.2 < NL)
  | _ => true
def ini? (q : MethodName × ByteArray × Nat × Option FieldType) : Bool := decide (q.1.name = "<init>")
/-- every row is as the tables say -/
def RowsAt (y : Nat) : Prop := ∀ (q : MethodName × ByteArray × Nat × Option FieldType), gMt[y]? = some q → ∀ (pc : Nat) (i : Instr) (lk : Lk), ftc y pc = some (i, lk) → ∃ hp, rok q.1.cls (ini? q) q.2.2.1 q.2.2.2 q.2.1 pc i lk hp = true ∧ cz (i, lk) = true
def RowsOK : Prop := ∀ y, y < gMt.length → RowsAt y
def MthAt (z : Nat) : Prop := ∀ (q : MethodName × ByteArray × Nat × Option FieldType), gMt[z]? = some q → Cond.code q.1 q.2.1 q.2.2.1 q.2.2.2 ∈ gws ∧ q.2.2.1 ≤ 40 ∧ plainName q.1.cls = true ∧ gML z = q.2.2.1
def MthOK : Prop := ∀ z, z < NL → MthAt z
def Walk (l : Launch) (B : Nat) (X : Cst) (sa : Nat → Nat) (cA : Nat → ClassId) (D : va_G) (n : Nat) : Prop :=
  ∀ (d y pc : Nat) (L : Lo) (S : List Value) (h : AH) (r : Option Value) (h' : AH) (q : MethodName × ByteArray × Nat × Option FieldType), gMt[y]? = some q → wpn X PG n d y pc L S h (fun a b => a = r ∧ b = h') →
  ∀ {p : Program} {e : Env} {R : Room} {s : State} {m : MethodId} {args : Array Value} {below : List Frame} {meth : Method} {c : Code} {H : Heap} {locs : List Loc} {cells slots n0 : Nat} {Q : State → Prop} {ls : Array Slot},
    Fx p R s m args meth c B n0 X sa cA D q.1.cls (ini? q) q.2.2.1 q.2.1 → hn h = n0 + cells → WR B cA D s H h → va_S (fun q => B ≤ q) s.heap H locs → hasL B sa ls q.2.2.1 L → (d + 10 ≤ R.frames ∧ 100 * (d + 10) ≤ R.locals) →
    (hn h' ≤ n0 + R.cells ∧ slots + (hz h' - hz h) ≤ R.slots) →
    (∀ (pc1 : Nat) (H1 : Heap) (locs1 : List Loc) (cells1 slots1 : Nat) (ls1 : Array Slot) (st : List Value), Ret B sa q pc1 r st → hn h' = n0 + cells1 → slots1 = slots + (hz h' - hz h) → WR B cA D s H1 h' → va_S (fun q => B ≤ q) s.heap H1 locs1 → W p l e R s m args below meth c H1 locs1 cells1 slots1 Q (F0 m pc1 ls1 st)) →
    W p l e R s m args below meth c H locs cells slots Q (F0 m pc ls (S.map (cv B sa)))
def eF (v : Value) : Lo := match v with
  | .long _ => [some v, none]
  | .double _ => [some v, none]
  | _ => [some v]
theorem entL_eq (n : Nat) (As : List Value) : entL n As = As.flatMap eF ++ List.replicate (n - (As.map Value.category).sum) none := rfl
theorem entL_get : ∀ (As : List Value) (k : Nat) (v : Value), (As.flatMap eF)[k]? = some (some v) → ∀ i, (k + i, cv B sa v) ∈ lv_args i (As.map (cv B sa)) := by
  intro As
  induction As with
  | nil => intro k v h; simp at h
  | cons a As ih =>
    intro k v h i
    rw [List.flatMap_cons] at h
    cases a with
    | long x =>
      match k, h with
      | 0, h => cases h; exact List.mem_cons.mpr (Or.inl (by simp))
      | 1, h => simp [eF] at h
      | k + 2, h =>
        refine List.mem_cons_of_mem _ ?_
        have := ih k v (by simpa [eF] using h) (i + 2)
        rw [show k + 2 + i = k + (i + 2) by omega]
        exact this
    | double x =>
      match k, h with
      | 0, h => cases h; exact List.mem_cons.mpr (Or.inl (by simp))
      | 1, h => simp [eF] at h
      | k + 2, h =>
        refine List.mem_cons_of_mem _ ?_
        have := ih k v (by simpa [eF] using h) (i + 2)
        rw [show k + 2 + i = k + (i + 2) by omega]
        exact this
    | _ =>
      match k, h with
      | 0, h => cases h; exact List.mem_cons.mpr (Or.inl (by simp))
      | k + 1, h =>
        refine List.mem_cons_of_mem _ ?_
        have := ih k v (by simpa [eF] using h) (i + 1)
        rw [show k + 1 + i = k + (i + 1) by omega]
        exact this
theorem lg_len : ∀ (vs : List Value), (lg_sl vs).length = (vs.map Value.category).sum
  | [] => rfl
  | v :: vs => by
    have ih := lg_len vs
    have e : lg_sl (v :: vs) = (if v.category = 2 then [Slot.val v, .second] else [.val v]) ++ lg_sl vs := by simp [lg_sl]
    rw [e, List.length_append, ih, List.map_cons, List.sum_cons]
    rcases lv_cat v with q | q
    · rw [q, if_neg (by decide)]; rfl
    · rw [q, if_pos rfl]; rfl
theorem ent_has {n : Nat} {As : List Value} (hn' : (As.map Value.category).sum ≤ n) : hasL B sa ((lg_sl (As.map (cv B sa)) ++ List.replicate (n - (lg_sl (As.map (cv B sa))).length) Slot.unset).toArray) n (entL n As) := by
  have hc : ((As.map (cv B sa)).map Value.category) = As.map Value.category := by rw [List.map_map]; exact List.map_congr_left (fun v _ => cv_cat B sa v)
  have h1 := lv_entry (As.map (cv B sa)) (n := n) (by rw [lg_len, hc]; exact hn')
  refine ⟨h1.1, h1.2.1, fun i v hi => ?_⟩
  refine h1.2.2 (i, cv B sa v) ?_
  rw [entL_eq] at hi
  rcases Nat.lt_or_ge i (As.flatMap eF).length with q | q
  · rw [List.getElem?_append_left q] at hi
    exact entL_get As i v hi 0
  · rw [List.getElem?_append_right q, List.getElem?_replicate] at hi
    split at hi <;> cases hi
set_option maxRecDepth 20000 in
/-- the walk gives the contract -/
theorem met_of (hM : MthOK) {n : Nat} (hw : Walk l B X sa cA D n) {d z : Nat} {q : MethodName × ByteArray × Nat × Option FieldType} (hz0 : z < NL) (hq : gMt[z]? = some q) {As : List Value} {h h' : AH} {r : Option Value} (hc : (As.map Value.category).sum ≤ gML z)
    (w : wpn X PG n d z 0 (entL (gML z) As) [] h (fun a b => a = r ∧ b = h')) : MetA l B X sa cA D d q As h r h' := by
  obtain ⟨hqc, hq40, hpl, hml⟩ := hM z hz0 q hq
  have hgrow : hn h ≤ hn h' ∧ hz h ≤ hz h' := by
    obtain ⟨r1, h1, ⟨rfl, rfl⟩, g, -⟩ := wpn_both _ _ _ _ _ _ _ _ w
    exact g
  refine Met.ofW (cc := q.2.1) (maxL := q.2.2.1) (ret := q.2.2.2) hpl rfl ?_
  intro p e s m args below meth c s₁ Bd hml1 hv
  obtain ⟨rfl, hWR, hES, hsz⟩ := hv
  have hts0 := atoms_spec (ws := wsM q) Bd.pre
  have hts : ∀ w ∈ gws, w.before (As.map (cv B sa)).toArray s = true := fun w hw => hts0 w (List.mem_cons_of_mem _ hw)
  have hown : s.vm.findClass q.1.cls = some m.cls := findClass_of_methodNamed Bd.named
  have hnm := (name_of_methodNamed Bd.named Bd.method).1
  have hlocks := Bd.notSynchronized
  have hx := Bd.exec
  have hb := Bd.bytes
  have hr := Bd.returns
  rw [lg_entry_eq]
  rw [hml] at w hc
  have hRoom : (headSpec (wsM q) (rmA d (hn h' - hn h) (hz h' - hz h))).room = rmA d (hn h' - hn h) (hz h' - hz h) := rfl
  refine hw d z 0 _ [] h r h' q hq w (n0 := hn h) (cells := 0) (slots := 0) (locs := []) ⟨hx, hb, hml1, hown, hts, fun hi => ?_, ?_, hES, hsz⟩ (by omega) hWR va_S.rf (ent_has hc) ?_ ?_ ?_
  · rw [hnm]; exact of_decide_eq_true hi
  · rw [hRoom]; exact ⟨by show 10 ≤ d + 10; omega, by show 1000 ≤ 100 * (d + 10); omega⟩
  · rw [hRoom]; exact ⟨Nat.le_refl _, Nat.le_refl _⟩
  · rw [hRoom]; exact ⟨by show hn h' ≤ hn h + (hn h' - hn h); omega, by show 0 + (hz h' - hz h) ≤ hz h' - hz h; omega⟩
  · intro pc1 H1 locs1 cells1 slots1 ls1 st hret hc1 hs1 hW1 hS1
    have e1 : cells1 = hn h' - hn h := by omega
    have e2 : slots1 = hz h' - hz h := by omega
    subst e1 e2
    have hqq : ∀ t : State, t.heap = H1 → s.WarmedH t.vm → QcA B sa cA D r h' (As.map (cv B sa)).toArray s (.returned (r.map (cv B sa))) t := fun t ht hwm =>
      ⟨rfl, by rw [ht]; exact hW1.moved hwm.alike, hS1.F ht⟩
    rcases hret with ⟨x, rfl, rfl, hd, hrt⟩ | ⟨x, rfl, rfl, hd, hrt⟩ | ⟨v, a, rt, rfl, hva, rfl, hd, hrt, hrk⟩ | ⟨rfl, rfl, hd, hrt⟩
    · rcases hrt with hrt | ⟨hrt, hx01⟩
      · exact W.iret hx hb (hr.trans hrt) hqq hS1.2.2 hd
      · refine W.zret hx hb (hr.trans hrt) ?_ hqq hS1.2.2 hd
        rcases hx01 with rfl | rfl <;> rfl
    · exact W.lret hx hb (hr.trans hrt) hqq hS1.2.2 hd
    · refine W.aret hx hb (hr.trans hrt) hrk (Or.inr ⟨a, rfl⟩) (fun t ht hwm => ?_) hS1.2.2 hd
      have := hqq t ht hwm
      rw [Option.map_some, hva] at this
      exact this
    · exact W.vret hx hb (hr.trans hrt) hqq hS1.2.2 hd
end S18
