section S11
variable {p : Program} {l : Launch} {e : Env} {R : Room} {s : State} {m : MethodId} {args : Array Value} {below : List Frame} {meth : Method} {c : Code} {H : Heap} {locs : List Loc} {cells slots : Nat} {Q : State → Prop}
variable {B n0 : Nat} {X : Cst} {sa : Nat → Nat} {cA : Nat → ClassId} {D : va_G} {own : String} {ini : Bool} {ml : Nat} {rt : Option FieldType} {cc : ByteArray} {pc : Nat} {L : Lo} {S : List Value} {h : AH} {ls : Array Slot} {lk : Lk} {hp : List Nat} {K : Cont}
/-- what stands fixed in a method's body -/
def Fx (p : Program) (R : Room) (s : State) (m : MethodId) (args : Array Value) (meth : Method) (c : Code) (B n0 : Nat) (X : Cst) (sa : Nat → Nat) (cA : Nat → ClassId) (D : va_G) (own : String) (ini : Bool) (ml : Nat) (cc : ByteArray) : Prop :=
  p.tables.exec = Jvm.exec ∧ c.code = cc ∧ c.maxLocals = ml ∧ s.vm.findClass own = some m.cls ∧ (∀ w ∈ gws, w.before args s = true) ∧ (ini = true → meth.name = "<init>") ∧ (10 ≤ R.frames ∧ 1000 ≤ R.locals) ∧ ES B X sa cA D s ∧ s.heap.size = B + n0
/-- the way on from a place -/
def Go (p : Program) (l : Launch) (e : Env) (R : Room) (s : State) (m : MethodId) (args : Array Value) (below : List Frame) (meth : Method) (c : Code) (Q : State → Prop) (B n0 : Nat) (sa : Nat → Nat) (cA : Nat → ClassId) (D : va_G) (ml : Nat) (slots : Nat) (h : AH) (K : Cont) : Prop :=
  ∀ (pc' : Nat) (L' : Lo) (S' : List Value) (h' : AH) (H' : Heap) (locs' : List Loc) (cells' slots' : Nat) (ls' : Array Slot), K pc' L' S' h' → hn h' = n0 + cells' → slots' = slots + (hz h' - hz h) → WR B cA D s H' h' → va_S (fun q => B ≤ q) s.heap H' locs' → hasL B sa ls' ml L' → W p l e R s m args below meth c H' locs' cells' slots' Q (F0 m pc' ls' (S'.map (cv B sa)))
theorem Go.same (kk : Go p l e R s m args below meth c Q B n0 sa cA D ml slots h K) (hc : hn h = n0 + cells) (hW : WR B cA D s H h) (hS : va_S (fun q => B ≤ q) s.heap H locs) {pc' : Nat} {L' : Lo} {S' : List Value} {ls' : Array Slot} (w : K pc' L' S' h) (hL : hasL B sa ls' ml L') :
    W p l e R s m args below meth c H locs cells slots Q (F0 m pc' ls' (S'.map (cv B sa))) := kk pc' L' S' h H locs cells slots ls' w hc (by omega) hW hS hL
/-- the same, with a heap of the same numbers -/
theorem Go.put (kk : Go p l e R s m args below meth c Q B n0 sa cA D ml slots h K) (hc : hn h = n0 + cells) {h' : AH} {H' : Heap} {locs' : List Loc} (hh : h'.1 = h.1) (hW : WR B cA D s H' h') (hS : va_S (fun q => B ≤ q) s.heap H' locs') {pc' : Nat} {L' : Lo} {S' : List Value} {ls' : Array Slot} (w : K pc' L' S' h') (hL : hasL B sa ls' ml L') :
    W p l e R s m args below meth c H' locs' cells slots Q (F0 m pc' ls' (S'.map (cv B sa))) := kk pc' L' S' h' H' locs' cells slots ls' w (by rw [show hn h' = hn h from congrArg (·.1) hh]; exact hc) (by rw [show hz h' = hz h from congrArg (·.2.1) hh]; omega) hW hS hL
theorem K1 (hE : ES B X sa cA D s) (hW : WR B cA D s H h) {a t : Nat} (ht : (hs h a).1 = t) (h1 : 1 ≤ t) : va_K D CL [(cA t, tyA t)] s := by
  refine ⟨hE.1.1, fun k q hq => ?_⟩
  have hk : k = 0 := by
    have := (List.getElem?_eq_some_iff.mp hq).1
    simpa using this
  subst hk
  cases hq
  have := hW.2.1 a (hW.lt1 (by omega)) (by omega)
  rw [ht] at this
  exact this
theorem rk {i : Instr} (hk : rok own ini ml rt cc pc i lk hp = true) : decode cc pc = .ok (i, ilen i lk) := by
  unfold rok at hk
  exact of_decide_eq_true (Bool.and_eq_true_iff.mp hk).1
/-- instructions that leave the heap alone -/
theorem step_plain (F : Fx p R s m args meth c B n0 X sa cA D own ini ml cc) (hc : hn h = n0 + cells) (hW : WR B cA D s H h) (hS : va_S (fun q => B ≤ q) s.heap H locs) (hL : hasL B sa ls ml L) {i : Instr}
    (hk : rok own ini ml rt cc pc i lk hp = true) (w : wpI X i lk pc L S h K) (kk : Go p l e R s m args below meth c Q B n0 sa cA D ml slots h K)
    (hi : match i with
      | .iconst _ | .bipush _ | .sipush _ | .lconst _ | .ldc _ | .ldc_w _ | .ldc2_w _ | .iload_n _ | .iload _ | .lload_n _ | .lload _ | .aload_n _ | .aload _ | .istore_n _ | .istore _ | .lstore_n _ | .lstore _ | .astore_n _ | .astore _ | .iinc _ _ => True
      | _ => False) :
    W p l e R s m args below meth c H locs cells slots Q (F0 m pc ls (S.map (cv B sa))) := by
  obtain ⟨hx, hb, hml, hown, hts, hin, hR, hE, hs0⟩ := F
  have hd := rk hk
  have go := fun {pc' : Nat} {L' : Lo} {S' : List Value} {ls' : Array Slot} => Go.same (pc' := pc') (L' := L') (S' := S') (ls' := ls') kk hc hW hS
  cases i <;> try exact hi.elim
  case iconst n => exact lv_iconst hx hb hd rfl (go w hL)
  case bipush n => exact lv_bipush hx hb hd rfl (go w hL)
  case sipush n => exact lv_sipush hx hb hd rfl (go w hL)
  case lconst n => exact lv_lconst hx hb hd rfl (go w hL)
  case ldc k =>
    obtain ⟨-, hk⟩ := Bool.and_eq_true_iff.mp hk
    obtain ⟨k1, k2, k3, k4⟩ := lk
    cases k2 with
    | zero =>
      rcases hp with _ | ⟨p1, _ | ⟨p2, r⟩⟩
      · cases hk
      · exact lv_ldc hx hb hown (hts _ (wat_in hk)) hd (go w hL)
      · cases hk
    | succ k2 =>
      obtain ⟨q, hq, hk⟩ := List.any_eq_true.mp (show (strT.any fun q => decide (q.1 = own) && decide (q.2.1 = k) && decide (q.2.2.1 = k1)) = true from hk)
      simp only [Bool.and_eq_true, decide_eq_true_eq] at hk
      obtain ⟨⟨q1, q2⟩, q3⟩ := hk
      have hR := hE.2.2.2.2.2.1.2.2 q hq
      rw [q1, q2, q3] at hR
      exact va_ldcS hx hb hown hR hd (go (S' := .retAddr k1 :: S) w hL)
  case ldc_w k =>
    obtain ⟨-, hk⟩ := Bool.and_eq_true_iff.mp hk
    simp only at hk
    split at hk
    · exact lv_ldcw hx hb hown (hts _ (wat_in hk)) hd (go w hL)
    · cases hk
  case ldc2_w k =>
    obtain ⟨-, hk⟩ := Bool.and_eq_true_iff.mp hk
    simp only at hk
    split at hk
    · exact lv_ldc2 hx hb hown (hts _ (wat_in hk)) hd (go w hL)
    · cases hk
  case iload_n n =>
    simp only [wpI] at w
    split at w
    · rename_i x e; exact lv_iload_n hx hb hd rfl (hL.get e (by simp)) (go w hL)
    · exact w.elim
  case iload n =>
    simp only [wpI] at w
    split at w
    · rename_i x e; exact lv_iload hx hb hd (hL.get e (by simp)) (go w hL)
    · exact w.elim
  case lload_n n =>
    simp only [wpI] at w
    split at w
    · rename_i x e; exact lv_lload_n hx hb hd rfl (hL.get e (by simp)) (go w hL)
    · exact w.elim
  case lload n =>
    simp only [wpI] at w
    split at w
    · rename_i x e; exact lv_lload hx hb hd (hL.get e (by simp)) (go w hL)
    · exact w.elim
  case aload_n n =>
    simp only [wpI] at w
    split at w
    · rename_i x e; exact lv_aload_n hx hb hd rfl (hL.get e (by simp)) (go w hL)
    · rename_i x e; exact lv_aload_n hx hb hd rfl (hL.get e (by simp)) (go w hL)
    · exact w.elim
  case aload n =>
    simp only [wpI] at w
    split at w
    · rename_i x e; exact lv_aload hx hb hd (hL.get e (by simp)) (go w hL)
    · exact w.elim
  case istore_n n =>
    obtain ⟨x, r, rfl, w⟩ := i1_e w
    exact lv_istore_n hx hb hd rfl hL.has (of_decide_eq_true (Bool.and_eq_true_iff.mp hk).2) rfl fun ls' h' => go w (hasL.st1 h')
  case istore n =>
    obtain ⟨x, r, rfl, w⟩ := i1_e w
    exact lv_istore hx hb hd hL.has (of_decide_eq_true (Bool.and_eq_true_iff.mp hk).2) rfl fun ls' h' => go w (hasL.st1 h')
  case lstore_n n =>
    obtain ⟨x, r, rfl, w⟩ := l1_e w
    exact lv_lstore_n hx hb hd rfl hL.has (of_decide_eq_true (Bool.and_eq_true_iff.mp hk).2) rfl fun ls' h' => go w (hasL.st2 h')
  case lstore n =>
    obtain ⟨x, r, rfl, w⟩ := l1_e w
    exact lv_lstore hx hb hd hL.has (of_decide_eq_true (Bool.and_eq_true_iff.mp hk).2) rfl fun ls' h' => go w (hasL.st2 h')
  case astore_n n =>
    obtain ⟨x, r, rfl, w⟩ := r1_e w
    exact lv_astore_n hx hb hd rfl hL.has (of_decide_eq_true (Bool.and_eq_true_iff.mp hk).2) rfl fun ls' h' => go w (hasL.st1 (v0 := .ref x) h')
  case astore n =>
    obtain ⟨x, r, rfl, w⟩ := r1_e w
    exact lv_astore hx hb hd hL.has (of_decide_eq_true (Bool.and_eq_true_iff.mp hk).2) rfl fun ls' h' => go w (hasL.st1 (v0 := .ref x) h')
  case iinc n z =>
    simp only [wpI] at w
    split at w
    · rename_i x e
      obtain ⟨k, hk1⟩ := hL.iget e
      exact lv_iinc hx hb hd hL.has hk1 rfl (of_decide_eq_true (Bool.and_eq_true_iff.mp hk).2) rfl fun ls' h' => go w (hasL.st1 (v0 := .int (x + Int32.ofInt z)) h')
    · exact w.elim
/-- arithmetic, the stack, branches -/
theorem step_arith (F : Fx p R s m args meth c B n0 X sa cA D own ini ml cc) (hc : hn h = n0 + cells) (hW : WR B cA D s H h) (hS : va_S (fun q => B ≤ q) s.heap H locs) (hL : hasL B sa ls ml L) {i : Instr}
    (hk : rok own ini ml rt cc pc i lk hp = true) (w : wpI X i lk pc L S h K) (kk : Go p l e R s m args below meth c Q B n0 sa cA D ml slots h K)
    (hi : match i with
      | .iadd | .isub | .imul | .iand | .ior | .ixor | .idiv | .irem | .ishl | .ishr | .iushr | .ineg | .i2l | .i2b | .l2i | .ladd | .lsub | .lmul | .land | .lor | .ldiv | .lrem | .lshl | .lcmp | .dup | .dup2 | .pop | .goto _ | .ifCond _ _ | .if_icmp _ _ => True
      | _ => False) :
    W p l e R s m args below meth c H locs cells slots Q (F0 m pc ls (S.map (cv B sa))) := by
  obtain ⟨hx, hb, hml, hown, hts, hin, hR, hE, hs0⟩ := F
  have hd := rk hk
  have go := fun {pc' : Nat} {L' : Lo} {S' : List Value} {ls' : Array Slot} => Go.same (pc' := pc') (L' := L') (S' := S') (ls' := ls') kk hc hW hS
  cases i <;> try exact hi.elim
  case iadd => obtain ⟨x, y, r, rfl, w⟩ := i2_e w; exact lv_iadd hx hb hd (go w hL)
  case isub => obtain ⟨x, y, r, rfl, w⟩ := i2_e w; exact lv_isub hx hb hd (go w hL)
  case imul => obtain ⟨x, y, r, rfl, w⟩ := i2_e w; exact lv_imul hx hb hd (go w hL)
  case iand => obtain ⟨x, y, r, rfl, w⟩ := i2_e w; exact lv_iand hx hb hd (go w hL)
  case ior => obtain ⟨x, y, r, rfl, w⟩ := i2_e w; exact lv_ior hx hb hd (go w hL)
  case ixor => obtain ⟨x, y, r, rfl, w⟩ := i2_e w; exact lv_ixor hx hb hd (go w hL)
  case idiv => obtain ⟨x, y, r, rfl, w0, w⟩ := i2_e w; exact lv_idiv hx hb hd w0 (go w hL)
  case irem => obtain ⟨x, y, r, rfl, w0, w⟩ := i2_e w; exact lv_irem hx hb hd w0 (go w hL)
  case ishl => obtain ⟨x, y, r, rfl, w⟩ := i2_e w; exact lv_ishl hx hb hd (go w hL)
  case ishr => obtain ⟨x, y, r, rfl, w⟩ := i2_e w; exact lv_ishr hx hb hd (go w hL)
  case iushr => obtain ⟨x, y, r, rfl, w⟩ := i2_e w; exact lv_iushr hx hb hd rfl (go w hL)
  case ineg => obtain ⟨x, r, rfl, w⟩ := i1_e w; exact lv_ineg hx hb hd (go w hL)
  case i2l => obtain ⟨x, r, rfl, w⟩ := i1_e w; exact lv_i2l hx hb hd rfl (go w hL)
  case i2b => obtain ⟨x, r, rfl, w⟩ := i1_e w; exact lv_i2b hx hb hd rfl (go w hL)
  case l2i => obtain ⟨x, r, rfl, w⟩ := l1_e w; exact lv_l2i hx hb hd rfl (go w hL)
  case ladd => obtain ⟨x, y, r, rfl, w⟩ := l2_e w; exact lv_ladd hx hb hd (go w hL)
  case lsub => obtain ⟨x, y, r, rfl, w⟩ := l2_e w; exact lv_lsub hx hb hd (go w hL)
  case lmul => obtain ⟨x, y, r, rfl, w⟩ := l2_e w; exact lv_lmul hx hb hd (go w hL)
  case land => obtain ⟨x, y, r, rfl, w⟩ := l2_e w; exact lv_land hx hb hd (go w hL)
  case lor => obtain ⟨x, y, r, rfl, w⟩ := l2_e w; exact lv_lor hx hb hd (go w hL)
  case ldiv => obtain ⟨x, y, r, rfl, w0, w⟩ := l2_e w; exact lv_ldiv hx hb hd w0 (go w hL)
  case lrem => obtain ⟨x, y, r, rfl, w0, w⟩ := l2_e w; exact lv_lrem hx hb hd w0 (go w hL)
  case lshl =>
    simp only [wpI] at w
    split at w
    · exact lv_lshl hx hb hd rfl (go w hL)
    · exact w.elim
  case lcmp => obtain ⟨x, y, r, rfl, w⟩ := l2_e w; exact W.lcmp hx hb hd (go w hL)
  case dup =>
    simp only [wpI] at w
    split at w
    · exact lv_dup hx hb hd rfl (go w hL)
    · exact lv_dup hx hb hd rfl (go w hL)
    · exact w.elim
  case dup2 =>
    simp only [wpI] at w
    split at w
    · exact lv_dup2_11 hx hb hd rfl rfl (go w hL)
    · exact w.elim
  case pop =>
    simp only [wpI] at w
    split at w
    · exact lv_pop hx hb hd rfl (go w hL)
    · exact lv_pop hx hb hd rfl (go w hL)
    · exact w.elim
  case goto o => exact lv_goto hx hb hd (of_decide_eq_true (Bool.and_eq_true_iff.mp hk).2) (go w hL)
  case ifCond cn o =>
    have ht := of_decide_eq_true (Bool.and_eq_true_iff.mp hk).2
    obtain ⟨x, r, rfl, w⟩ := i1_e w
    cases cn
    · exact lv_if_eq hx hb hd ht (fun q => go (w.1 q) hL) (fun q => go (w.2 q) hL)
    · exact lv_if_ne hx hb hd ht (fun q => go (w.1 q) hL) (fun q => go (w.2 (fun z => z q)) hL)
    · exact lv_if_lt hx hb hd ht (fun q => go (w.1 q) hL) (fun q => go (w.2 q) hL)
    · exact lv_if_ge hx hb hd ht (fun q => go (w.1 q) hL) (fun q => go (w.2 q) hL)
    · exact lv_if_gt hx hb hd ht (fun q => go (w.1 q) hL) (fun q => go (w.2 q) hL)
    · exact lv_if_le hx hb hd ht (fun q => go (w.1 q) hL) (fun q => go (w.2 q) hL)
  case if_icmp cn o =>
    have ht := of_decide_eq_true (Bool.and_eq_true_iff.mp hk).2
    obtain ⟨x, y, r, rfl, w⟩ := i2_e w
    cases cn
    · exact lv_icmp_eq hx hb hd ht (fun q => go (w.1 q) hL) (fun q => go (w.2 q) hL)
    · exact lv_icmp_ne hx hb hd ht (fun q => go (w.1 q) hL) (fun q => go (w.2 (fun z => z q)) hL)
    · exact lv_icmp_lt hx hb hd ht (fun q => go (w.1 q) hL) (fun q => go (w.2 q) hL)
    · exact lv_icmp_ge hx hb hd ht (fun q => go (w.1 q) hL) (fun q => go (w.2 q) hL)
    · exact lv_icmp_gt hx hb hd ht (fun q => go (w.1 q) hL) (fun q => go (w.2 q) hL)
    · exact lv_icmp_le hx hb hd ht (fun q => go (w.1 q) hL) (fun q => go (w.2 q) hL)
end S11
