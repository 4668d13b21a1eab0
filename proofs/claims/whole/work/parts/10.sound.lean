def nws : List Cond := gtb.filter fun w => match w with
  | .methodLinkNest _ _ _ _ => true
  | .declares _ => true
  | _ => false
theorem nat_nest {p : Nat} {a : String} {k : Nat} {y : MethodName} {b : String} (h : nat_ p (.methodLinkNest a k y b) = true) : Cond.methodLinkNest a k y b ∈ nws := by
  simp only [nat_, decide_eq_true_eq] at h
  exact List.mem_filter.mpr ⟨List.mem_of_getElem? h, rfl⟩
theorem nat_decl {p : Nat} {y : MethodName} (h : nat_ p (.declares y) = true) : Cond.declares y ∈ nws := by
  simp only [nat_, decide_eq_true_eq] at h
  exact List.mem_filter.mpr ⟨List.mem_of_getElem? h, rfl⟩
/-- the string constants stand where they stand; what their methods read beside them -/
def SK (B : Nat) (sa sV : Nat → Nat) (U : State) (H : Heap) : Prop := ∀ i : Nat, i < sNum → va_O "java/lang/String" (sa i) (fun q => B ≤ q) U H ∧ va_OF "java/lang/String" "coder" "B" (.int 0) (sa i) (fun q => B ≤ q) U H ∧ va_OF "java/lang/String" "value" "[B" (.ref (sV i)) (sa i) (fun q => B ≤ q) U H ∧ va_T .byte (sV i) (sLen.getD i 0) (fun j => .int ((sByt.getD i []).getD j 0)) (fun q => B ≤ q) U H
theorem SK.moved {B : Nat} {sa sV : Nat → Nat} {u U : State} {H : Heap} (hvm : u.vm.Alike U.vm) (h : SK B sa sV u H) : SK B sa sV U H := fun i hi => ⟨va_O.moved hvm (h i hi).1, va_OF.moved hvm (h i hi).2.1, va_OF.moved hvm (h i hi).2.2.1, va_T.moved hvm (h i hi).2.2.2⟩
theorem SK.kept {B : Nat} {sa sV : Nat → Nat} {U : State} {H H1 : Heap} (h : SK B sa sV U H) (hq : ∀ a : Nat, a < H.size → ¬ (fun q => B ≤ q) a → H1[a]? = H[a]?) : SK B sa sV U H1 := fun i hi => ⟨(h i hi).1.kept hq, (h i hi).2.1.kept hq, (h i hi).2.2.1.kept hq, (h i hi).2.2.2.kept hq⟩
theorem SK.recv {B i : Nat} {sa sV : Nat → Nat} {s : State} {H : Heap} {locs : List Loc} (h : SK B sa sV s s.heap) (hi : i < sNum) (hS : va_S (fun q => B ≤ q) s.heap H locs) : ∃ cell : Cell, H[sa i]? = some cell ∧ cell.vm.isStatics = false ∧ s.vm.findClass "java/lang/String" = some cell.cls := by
  obtain ⟨cell, h1, h2, h3, -⟩ := (h i hi).1.kept hS.2.1
  exact ⟨cell, h1, h2, h3⟩
def SZ (B : Nat) (sa sV : Nat → Nat) (s : State) : Prop := SK B sa sV s s.heap ∧ va_Z "java/lang/String" "COMPACT_STRINGS" "Z" (.int 1) (fun q => B ≤ q) s s.heap ∧ va_Zq "jdk/internal/util/Preconditions" "SIOOBE_FORMATTER" "Ljava/util/function/BiFunction;" (fun q => B ≤ q) s s.heap
def SS (B : Nat) (X : Cst) (sa : Nat → Nat) (s : State) : Prop := X.2 = X2 ∧ (∃ sV : Nat → Nat, SZ B sa sV s) ∧ ∀ q ∈ strT, vk_R q.1 q.2.1 q.2.2.2 (sa q.2.2.1) s
theorem SZ.next {B : Nat} {sa sV : Nat → Nat} {s U : State} {H : Heap} {locs : List Loc} (hv : s.vm.Alike U.vm) (hU : U.heap = H) (hS : va_S (fun q => B ≤ q) s.heap H locs) (e : SZ B sa sV s) : SZ B sa sV U := by
  subst hU
  exact ⟨(e.1.moved hv).kept hS.2.1, (e.2.1.moved hv).kept hS.2.1, (e.2.2.moved hv).kept hS.2.1⟩
/-- what holds of a state at every method's entry -/
def ES (B : Nat) (X : Cst) (sa : Nat → Nat) (cA : Nat → ClassId) (D : va_G) (s : State) : Prop :=
  va_K D CL [] s ∧ (∀ w ∈ nws, va_Nw w s) ∧ (∀ C ∈ aos, va_AO C s) ∧ (∀ t c', s.vm.findClass ("[" ++ (tyA t).toString) = some c' → c' = cA t) ∧ (va_X (sa SCR) X.1.1 X.1.2 s s.heap ∧ sa SCR < B) ∧ SS B X sa s ∧ B ≤ s.heap.size
theorem ES.next {B : Nat} {X : Cst} {sa : Nat → Nat} {cA : Nat → ClassId} {D : va_G} {s U : State} {H : Heap} {locs : List Loc} (hW : s.WarmedH U.vm) (hU : U.heap = H) (hS : va_S (fun q => B ≤ q) s.heap H locs) (e : ES B X sa cA D s) : ES B X sa cA D U := by
  obtain ⟨e1, e2, e3, e4, ⟨e5, e5b⟩, ⟨e6, ⟨sV, e7⟩, e8⟩, e10⟩ := e
  have hv := hW.alike
  subst hU
  refine ⟨e1.moved hv, fun w hw => ?_, fun C hC => (e3 C hC).moved hv, fun t c' h => e4 t c' (by rw [← hv.findClass]; exact h), ⟨(e5.moved hv).kept (hS.2.1 _ (by omega) (by show ¬ B ≤ _; omega)), e5b⟩, ⟨e6, ⟨sV, e7.next hv rfl hS⟩, fun q hq => (e8 q hq).warm hW⟩, Nat.le_trans e10 hS.1⟩
  have h1 := e2 w hw
  have h2 := (List.mem_filter.mp hw).2
  cases w <;> first | exact h1.warmM hW | exact h1.warmD hW | (exact absurd h2 (by simp))
/-! locals -/
def hasL (B : Nat) (sa : Nat → Nat) (ls : Array Slot) (n : Nat) (L : Lo) : Prop := ls.size = n ∧ lv_wf ls ∧ ∀ (i : Nat) (v : Value), L[i]? = some (some v) → ls[i]? = some (.val (cv B sa v))
def asl (B : Nat) (sa : Nat → Nat) (L : Lo) : List (Nat × Value) := (List.range L.length).filterMap fun i => match L[i]? with
  | some (some v) => some (i, cv B sa v)
  | _ => none
theorem asl_mem {B : Nat} {sa : Nat → Nat} {L : Lo} {q : Nat × Value} : q ∈ asl B sa L ↔ ∃ v, L[q.1]? = some (some v) ∧ q.2 = cv B sa v := by
  unfold asl
  rw [List.mem_filterMap]
  constructor
  · rintro ⟨i, -, h⟩
    split at h
    · rename_i v hv
      cases h
      exact ⟨v, hv, rfl⟩
    · cases h
  · rintro ⟨v, h1, h2⟩
    have hl : q.1 < L.length := (List.getElem?_eq_some_iff.mp h1).1
    refine ⟨q.1, List.mem_range.mpr hl, ?_⟩
    rw [h1]
    simp only [← h2]
theorem hasL.has {B : Nat} {sa : Nat → Nat} {ls : Array Slot} {n : Nat} {L : Lo} (h : hasL B sa ls n L) : lv_has ls n (asl B sa L) := by
  refine ⟨h.1, h.2.1, fun q hq => ?_⟩
  obtain ⟨v, h1, h2⟩ := asl_mem.mp hq
  rw [h2]
  exact h.2.2 _ _ h1
theorem lo1_get {L : Lo} {i j : Nat} {v0 v : Value} (h : (lo1 L i v0)[j]? = some (some v)) : (j = i ∧ v = v0) ∨ (j ≠ i ∧ L[j]? = some (some v) ∧ ¬ (j + 1 = i ∧ v.category = 2)) := by
  unfold lo1 at h
  rw [List.getElem?_set] at h
  by_cases q : i = j
  · subst q
    rw [if_pos rfl] at h
    have h2 : ∀ {b : Prop} [Decidable b], (if b then some (some v0) else none) = some (some v) → v = v0 := by
      intro b _ hh
      by_cases hb : b
      · rw [if_pos hb] at hh; cases hh; rfl
      · rw [if_neg hb] at hh; cases hh
    exact Or.inl ⟨rfl, h2 h⟩
  · rw [if_neg q] at h
    refine Or.inr ⟨fun z => q z.symm, ?_⟩
    cases i with
    | zero => exact ⟨h, fun z => by omega⟩
    | succ k =>
      simp only at h
      split at h
      · rw [List.getElem?_set] at h
        by_cases z : k = j
        · rw [if_pos z] at h
          split at h <;> cases h
        · rw [if_neg z] at h
          exact ⟨h, fun w => z (by omega)⟩
      · rw [List.getElem?_set] at h
        by_cases z : k = j
        · rw [if_pos z] at h
          split at h <;> cases h
        · rw [if_neg z] at h
          exact ⟨h, fun w => z (by omega)⟩
      · rename_i n1 n2
        refine ⟨h, fun w => ?_⟩
        have hk : k = j := by omega
        subst hk
        cases v with
        | long x => exact n1 x h
        | double x => exact n2 x h
        | _ => simp [Value.category] at w
theorem lo2_get {L : Lo} {i j : Nat} {v0 v : Value} (h : (lo2 L i v0)[j]? = some (some v)) : j ≠ i + 1 ∧ ((j = i ∧ v = v0) ∨ (j ≠ i ∧ L[j]? = some (some v) ∧ ¬ (j + 1 = i ∧ v.category = 2))) := by
  have e : lo2 L i v0 = (lo1 L i v0).set (i + 1) none := rfl
  rw [e, List.getElem?_set] at h
  by_cases q : i + 1 = j
  · rw [if_pos q] at h
    split at h <;> cases h
  · rw [if_neg q] at h
    exact ⟨fun z => q z.symm, lo1_get h⟩
theorem hasL.st1 {B : Nat} {sa : Nat → Nat} {ls : Array Slot} {n i : Nat} {L : Lo} {v0 : Value} (h : lv_has ls n ((i, cv B sa v0) :: (asl B sa L).filter (fun q => !(q.1 == i) && !(q.1 + 1 == i && q.2.category == 2)))) : hasL B sa ls n (lo1 L i v0) := by
  refine ⟨h.1, h.2.1, fun j v hj => ?_⟩
  refine h.2.2 (j, cv B sa v) ?_
  rcases lo1_get hj with ⟨rfl, rfl⟩ | ⟨q1, q2, q3⟩
  · exact List.mem_cons_self
  · refine List.mem_cons_of_mem _ (List.mem_filter.mpr ⟨asl_mem.mpr ⟨v, q2, rfl⟩, ?_⟩)
    simp only [Bool.and_eq_true, Bool.not_eq_true', beq_eq_false_iff_ne, ne_eq, Bool.and_eq_false_iff, cv_cat]
    refine ⟨q1, ?_⟩
    by_cases z : j + 1 = i
    · exact Or.inr fun c => q3 ⟨z, c⟩
    · exact Or.inl z
theorem hasL.st2 {B : Nat} {sa : Nat → Nat} {ls : Array Slot} {n i : Nat} {L : Lo} {v0 : Value} (h : lv_has ls n ((i, cv B sa v0) :: (asl B sa L).filter (fun q => !(q.1 == i) && (!(q.1 == i + 1) && !(q.1 + 1 == i && q.2.category == 2))))) : hasL B sa ls n (lo2 L i v0) := by
  refine ⟨h.1, h.2.1, fun j v hj => ?_⟩
  refine h.2.2 (j, cv B sa v) ?_
  obtain ⟨q0, hj⟩ := lo2_get hj
  rcases hj with ⟨rfl, rfl⟩ | ⟨q1, q2, q3⟩
  · exact List.mem_cons_self
  · refine List.mem_cons_of_mem _ (List.mem_filter.mpr ⟨asl_mem.mpr ⟨v, q2, rfl⟩, ?_⟩)
    simp only [Bool.and_eq_true, Bool.not_eq_true', beq_eq_false_iff_ne, ne_eq, Bool.and_eq_false_iff, cv_cat]
    refine ⟨q1, q0, ?_⟩
    by_cases z : j + 1 = i
    · exact Or.inr fun c => q3 ⟨z, c⟩
    · exact Or.inl z
theorem lg_some {L : Lo} {i : Nat} {v : Value} (h : lg L i = v) (hv : v ≠ .null) : L[i]? = some (some v) := by
  unfold lg at h
  split at h
  · rename_i w e; rw [e, h]
  · exact absurd h.symm hv
theorem hasL.get {B : Nat} {sa : Nat → Nat} {ls : Array Slot} {n i : Nat} {L : Lo} {v : Value} (h : hasL B sa ls n L) (hg : lg L i = v) (hv : v ≠ .null) : ls[i]? = some (.val (cv B sa v)) := h.2.2 _ _ (lg_some hg hv)
theorem hasL.iget {B : Nat} {sa : Nat → Nat} {ls : Array Slot} {n i : Nat} {L : Lo} {x : Int32} (h : hasL B sa ls n L) (hg : lg L i = .int x) : ∃ k : Nat, (asl B sa L)[k]? = some (i, Value.int x) := by
  have := asl_mem (B := B) (sa := sa) (L := L) (q := (i, Value.int x)) |>.mpr ⟨.int x, lg_some hg (by simp), rfl⟩
  exact List.getElem?_of_mem this
/-! classes -/
theorem CL_get {c : Nat} (h : c < CL.length) : ∃ T N, CL[c]? = some (clN c, T, N) := by
  have h1 : CL[c]? = some CL[c] := List.getElem?_eq_getElem h
  refine ⟨CL[c].2.1, CL[c].2.2, ?_⟩
  have : clN c = CL[c].1 := by unfold clN; rw [h1]
  rw [this]
  exact h1
section S10
variable {p : Program} {l : Launch} {e : Env} {R : Room} {s : State} {m : MethodId} {args : Array Value} {below : List Frame} {meth : Method} {c : Code} {H : Heap} {locs : List Loc} {cells slots : Nat} {Q : State → Prop}
/-- the heap is no larger than what was there and what was made -/
theorem W.size {g : JFrame} (k : H.size ≤ s.heap.size + cells → W p l e R s m args below meth c H locs cells slots Q g) : W p l e R s m args below meth c H locs cells slots Q g := fun T hT X => k (by rw [← hT]; exact X.heapSize) T hT X
end S10
