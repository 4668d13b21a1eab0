/-! THE SMALL MACHINE: the program's own instructions over numbered cells, as a predicate transformer.
A cell k has a shape (0, class number) or (kind of array, length); its contents are hI (ints), hL (longs), hR (references, by numbers). -/
abbrev AH : Type := (Nat × Nat × (Nat → Nat × Nat)) × (Nat → Nat → Int32) × (Nat → Nat → Int64) × (Nat → Nat → Option Nat)
def hn (h : AH) : Nat := h.1.1
def hz (h : AH) : Nat := h.1.2.1
def hs (h : AH) : Nat → Nat × Nat := h.1.2.2
def hI (h : AH) : Nat → Nat → Int32 := h.2.1
def hL (h : AH) : Nat → Nat → Int64 := h.2.2.1
def hR (h : AH) : Nat → Nat → Option Nat := h.2.2.2
def wI (h : AH) (a j : Nat) (x : Int32) : AH := (h.1, va_up (hI h) a (va_up (hI h a) j x), hL h, hR h)
def wL (h : AH) (a j : Nat) (x : Int64) : AH := (h.1, hI h, va_up (hL h) a (va_up (hL h a) j x), hR h)
def wR (h : AH) (a j : Nat) (x : Option Nat) : AH := (h.1, hI h, hL h, va_up (hR h) a (va_up (hR h a) j x))
/-- n elements from place sp of row a come to place dp of row b -/
def wC (h : AH) (a sp b dp n : Nat) : AH := (h.1, va_up (hI h) b (va_cpy (hI h a) (hI h b) sp dp n), hL h, hR h)
/-- a new cell of shape t that takes z slots -/
def aN (h : AH) (t : Nat × Nat) (z : Nat) : AH := ((hn h + 1, hz h + z, va_up (hs h) (hn h) t), va_up (hI h) (hn h) (fun _ => 0), va_up (hL h) (hn h) (fun _ => 0), va_up (hR h) (hn h) (fun _ => none))
/-- what a row says beside its instruction -/
abbrev Lk : Type := Nat × Nat × List (Nat × Nat) × Int
abbrev Row : Type := Instr × Lk
abbrev Lo : Type := List (Option Value)
/-- a store into the locals -/
def lo1 (L : Lo) (i : Nat) (v : Value) : Lo := (match i with
  | 0 => L
  | j + 1 => match L[j]? with
    | some (some (.long _)) => L.set j none
    | some (some (.double _)) => L.set j none
    | _ => L).set i (some v)
def lo2 (L : Lo) (i : Nat) (v : Value) : Lo := ((match i with
  | 0 => L
  | j + 1 => match L[j]? with
    | some (some (.long _)) => L.set j none
    | some (some (.double _)) => L.set j none
    | _ => L).set i (some v)).set (i + 1) none
def lg (L : Lo) (i : Nat) : Value := match L[i]? with
  | some (some v) => v
  | _ => .null
/-- a place of an array -/
def ix (i : Int32) (n : Nat) : Prop := vp_in i n
def okc (h : AH) (o : Nat) : List (Nat × Nat) → Prop
  | [] => False
  | [c] => hs h o = (0, c.1)
  | c :: d :: r => hs h o = (0, c.1) ∨ okc h o (d :: r)
def cal (h : AH) (o : Nat) (C : Nat → Prop) : List (Nat × Nat) → Prop
  | [] => False
  | [c] => hs h o = (0, c.1) ∧ C c.2
  | c :: d :: r => (hs h o = (0, c.1) → C c.2) ∧ (¬ hs h o = (0, c.1) → cal h o C (d :: r))
def swt (x : Int32) (d : Nat) (K : Nat → Prop) : List (Nat × Nat) → Prop
  | [] => K d
  | c :: r => (x = nI c.1 → K c.2) ∧ (¬ x = nI c.1 → swt x d K r)
def cnd (c : ClassFile.Cond) (x y : Int32) : Prop := match c with
  | .eq => x = y
  | .ne => ¬ x = y
  | .lt => x < y
  | .ge => y ≤ x
  | .gt => y < x
  | .le => x ≤ y
abbrev Cont : Type := Nat → Lo → List Value → AH → Prop
/-- the law's script, as a value of this machine (.retAddr SCR); a string constant i is .retAddr i -/
abbrev SCR : Nat := 999
def i1 (S : List Value) (K : Int32 → List Value → Prop) : Prop := match S with
  | .int x :: r => K x r
  | _ => False
def i2 (S : List Value) (K : Int32 → Int32 → List Value → Prop) : Prop := match S with
  | .int y :: .int x :: r => K x y r
  | _ => False
def l2 (S : List Value) (K : Int64 → Int64 → List Value → Prop) : Prop := match S with
  | .long y :: .long x :: r => K x y r
  | _ => False
def l1 (S : List Value) (K : Int64 → List Value → Prop) : Prop := match S with
  | .long x :: r => K x r
  | _ => False
def r1 (S : List Value) (K : Nat → List Value → Prop) : Prop := match S with
  | .ref a :: r => K a r
  | _ => False
def ir (S : List Value) (K : Int32 → Nat → List Value → Prop) : Prop := match S with
  | .int i :: .ref a :: r => K i a r
  | _ => False
/-- what lies below on the stack is little -/
def ct (r : List Value) (P : Prop) : Prop := match decide ((r.map Value.category).sum ≤ 8) with
  | true => P
  | false => False
theorem ct_e {r : List Value} {P : Prop} (w : ct r P) : (r.map Value.category).sum ≤ 8 ∧ P := by
  unfold ct at w
  split at w
  · rename_i e; exact ⟨of_decide_eq_true e, w⟩
  · exact w.elim
theorem ct_i {r : List Value} {P : Prop} (h : (r.map Value.category).sum ≤ 8) (w : P) : ct r P := by
  unfold ct
  rw [decide_eq_true h]
  exact w
/-- what stands fixed: the script's length and ints; how many string constants, their lengths, their characters -/
abbrev Cst : Type := (Nat × (Nat → Int32)) × (Nat × (Nat → Nat) × (Nat → Nat → Int32))
/-- one instruction that is no call and no return -/
def wpI (X : Cst) (i : Instr) (lk : Lk) (pc : Nat) (L : Lo) (S : List Value) (h : AH) (K : Cont) : Prop := match i with
  | .iconst n => K (pc + 1) L (.int (Int32.ofInt n) :: S) h
  | .bipush n => K (pc + 2) L (.int ((Int8.ofInt n).toInt32) :: S) h
  | .sipush n => K (pc + 3) L (.int ((Int16.ofInt n).toInt32) :: S) h
  | .lconst n => K (pc + 1) L (.long (Int64.ofNat n.val) :: S) h
  | .ldc _ => K (pc + 2) L ((match lk.2.1 with
    | 0 => .int (Int32.ofInt lk.2.2.2)
    | _ => .retAddr lk.1) :: S) h
  | .ldc_w _ => K (pc + 3) L (.int (Int32.ofInt lk.2.2.2) :: S) h
  | .ldc2_w _ => K (pc + 3) L (.long (Int64.ofInt lk.2.2.2) :: S) h
  | .iload_n n => match lg L n.val with
    | .int x => K (pc + 1) L (.int x :: S) h
    | _ => False
  | .iload n => match lg L n with
    | .int x => K (pc + 2) L (.int x :: S) h
    | _ => False
  | .lload_n n => match lg L n.val with
    | .long x => K (pc + 1) L (.long x :: S) h
    | _ => False
  | .lload n => match lg L n with
    | .long x => K (pc + 2) L (.long x :: S) h
    | _ => False
  | .aload_n n => match lg L n.val with
    | .ref x => K (pc + 1) L (.ref x :: S) h
    | .retAddr x => K (pc + 1) L (.retAddr x :: S) h
    | _ => False
  | .aload n => match lg L n with
    | .ref x => K (pc + 2) L (.ref x :: S) h
    | _ => False
  | .istore_n n => i1 S fun x r => K (pc + 1) (lo1 L n.val (.int x)) r h
  | .istore n => i1 S fun x r => K (pc + 2) (lo1 L n (.int x)) r h
  | .lstore_n n => l1 S fun x r => K (pc + 1) (lo2 L n.val (.long x)) r h
  | .lstore n => l1 S fun x r => K (pc + 2) (lo2 L n (.long x)) r h
  | .astore_n n => r1 S fun x r => K (pc + 1) (lo1 L n.val (.ref x)) r h
  | .astore n => r1 S fun x r => K (pc + 2) (lo1 L n (.ref x)) r h
  | .iinc n z => match lg L n with
    | .int x => K (pc + 3) (lo1 L n (.int (x + Int32.ofInt z))) S h
    | _ => False
  | .iadd => i2 S fun x y r => K (pc + 1) L (.int (x + y) :: r) h
  | .isub => i2 S fun x y r => K (pc + 1) L (.int (x - y) :: r) h
  | .imul => i2 S fun x y r => K (pc + 1) L (.int (x * y) :: r) h
  | .iand => i2 S fun x y r => K (pc + 1) L (.int (x &&& y) :: r) h
  | .ior => i2 S fun x y r => K (pc + 1) L (.int (x ||| y) :: r) h
  | .ixor => i2 S fun x y r => K (pc + 1) L (.int (x ^^^ y) :: r) h
  | .idiv => i2 S fun x y r => ¬ y = 0 ∧ K (pc + 1) L (.int (x / y) :: r) h
  | .irem => i2 S fun x y r => ¬ y = 0 ∧ K (pc + 1) L (.int (x - x / y * y) :: r) h
  | .ishl => i2 S fun x y r => K (pc + 1) L (.int (x <<< (y &&& 31)) :: r) h
  | .ishr => i2 S fun x y r => K (pc + 1) L (.int (x >>> (y &&& 31)) :: r) h
  | .iushr => i2 S fun x y r => K (pc + 1) L (.int ((x.toUInt32 >>> (y.toUInt32 &&& Int32.toUInt32 31)).toInt32) :: r) h
  | .ineg => i1 S fun x r => K (pc + 1) L (.int (-x) :: r) h
  | .i2l => i1 S fun x r => K (pc + 1) L (.long x.toInt64 :: r) h
  | .i2b => i1 S fun x r => K (pc + 1) L (.int x.toInt8.toInt32 :: r) h
  | .l2i => l1 S fun x r => K (pc + 1) L (.int x.toInt32 :: r) h
  | .ladd => l2 S fun x y r => K (pc + 1) L (.long (x + y) :: r) h
  | .lsub => l2 S fun x y r => K (pc + 1) L (.long (x - y) :: r) h
  | .lmul => l2 S fun x y r => K (pc + 1) L (.long (x * y) :: r) h
  | .land => l2 S fun x y r => K (pc + 1) L (.long (x &&& y) :: r) h
  | .lor => l2 S fun x y r => K (pc + 1) L (.long (x ||| y) :: r) h
  | .ldiv => l2 S fun x y r => ¬ y = 0 ∧ K (pc + 1) L (.long (x / y) :: r) h
  | .lrem => l2 S fun x y r => ¬ y = 0 ∧ K (pc + 1) L (.long (x - x / y * y) :: r) h
  | .lshl => match S with
    | .int y :: .long x :: r => K (pc + 1) L (.long (x <<< (y.toInt64 &&& 63)) :: r) h
    | _ => False
  | .lcmp => l2 S fun x y r => K (pc + 1) L (.int (lg_cmp x y) :: r) h
  | .dup => match S with
    | .int x :: r => K (pc + 1) L (.int x :: .int x :: r) h
    | .ref x :: r => K (pc + 1) L (.ref x :: .ref x :: r) h
    | _ => False
  | .dup2 => match S with
    | .int x :: .ref y :: r => K (pc + 1) L (.int x :: .ref y :: .int x :: .ref y :: r) h
    | _ => False
  | .pop => match S with
    | .int _ :: r => K (pc + 1) L r h
    | .ref _ :: r => K (pc + 1) L r h
    | _ => False
  | .goto _ => K lk.1 L S h
  | .ifCond c _ => i1 S fun x r => (cnd c x 0 → K lk.1 L r h) ∧ (¬ cnd c x 0 → K (pc + 3) L r h)
  | .if_icmp c _ => i2 S fun x y r => (cnd c x y → K lk.1 L r h) ∧ (¬ cnd c x y → K (pc + 3) L r h)
  | .tableswitch _ _ _ _ => i1 S fun x r => swt x lk.1 (fun t => K t L r h) lk.2.2.1
  | .iaload => match S with
    | .int i :: .retAddr q :: r => q = SCR ∧ ix i X.1.1 ∧ K (pc + 1) L (.int (X.1.2 i.toNatClampNeg) :: r) h
    | .int i :: .ref a :: r => (hs h a).1 = 1 ∧ ix i (hs h a).2 ∧ K (pc + 1) L (.int (hI h a i.toNatClampNeg) :: r) h
    | _ => False
  | .baload => ir S fun i a r => ((hs h a).1 = 3 ∨ (hs h a).1 = 4) ∧ ix i (hs h a).2 ∧ K (pc + 1) L (.int (hI h a i.toNatClampNeg) :: r) h
  | .laload => ir S fun i a r => (hs h a).1 = 2 ∧ ix i (hs h a).2 ∧ K (pc + 1) L (.long (hL h a i.toNatClampNeg) :: r) h
  | .aaload => ir S fun i a r => 5 ≤ (hs h a).1 ∧ ix i (hs h a).2 ∧ ∃ q, hR h a i.toNatClampNeg = some q ∧ K (pc + 1) L (.ref q :: r) h
  | .iastore => match S with
    | .int x :: .int i :: .ref a :: r => (hs h a).1 = 1 ∧ ix i (hs h a).2 ∧ K (pc + 1) L r (wI h a i.toNatClampNeg x)
    | _ => False
  | .bastore => match S with
    | .int x :: .int i :: .ref a :: r => ((hs h a).1 = 3 ∧ ix i (hs h a).2 ∧ K (pc + 1) L r (wI h a i.toNatClampNeg (vp_nar .byte x))) ∨ ((hs h a).1 = 4 ∧ ix i (hs h a).2 ∧ K (pc + 1) L r (wI h a i.toNatClampNeg (vp_nar .boolean x)))
    | _ => False
  | .lastore => match S with
    | .long x :: .int i :: .ref a :: r => (hs h a).1 = 2 ∧ ix i (hs h a).2 ∧ K (pc + 1) L r (wL h a i.toNatClampNeg x)
    | _ => False
  | .aastore => match S with
    | .ref q :: .int i :: .ref a :: r => (∃ c, c < 100 ∧ (hs h a).1 = 5 + c ∧ hs h q = (0, c)) ∧ ix i (hs h a).2 ∧ K (pc + 1) L r (wR h a i.toNatClampNeg (some q))
    | _ => False
  | .arraylength => match S with
    | .retAddr q :: r => q = SCR ∧ K (pc + 1) L (.int (nI X.1.1) :: r) h
    | .ref a :: r => 1 ≤ (hs h a).1 ∧ K (pc + 1) L (.int (nI (hs h a).2) :: r) h
    | _ => False
  | .newarray _ => i1 S fun x r => ¬ x < 0 ∧ x.toNatClampNeg ≤ 1000000 ∧ K (pc + 2) L (.ref (hn h) :: r) (aN h (lk.1, x.toNatClampNeg) x.toNatClampNeg)
  | .anewarray _ => i1 S fun x r => ¬ x < 0 ∧ x.toNatClampNeg ≤ 1000000 ∧ K (pc + 3) L (.ref (hn h) :: r) (aN h (5 + lk.1, x.toNatClampNeg) x.toNatClampNeg)
  | .new _ => K (pc + 3) L (.ref (hn h) :: S) (aN h (0, lk.1) lk.2.1)
  | .getfield _ => r1 S fun o r => okc h o lk.2.2.1 ∧ (match lk.2.1 with
    | 0 => K (pc + 3) L (.int (hI h o lk.1) :: r) h
    | 1 => K (pc + 3) L (.long (hL h o lk.1) :: r) h
    | 2 => ∃ q, hR h o lk.1 = some q ∧ K (pc + 3) L (.ref q :: r) h
    | _ => K (pc + 3) L (.int (hI h o lk.1) :: r) h)
  | .putfield _ => match lk.2.1, S with
    | 0, .int x :: .ref o :: r => okc h o lk.2.2.1 ∧ K (pc + 3) L r (wI h o lk.1 x)
    | 1, .long x :: .ref o :: r => okc h o lk.2.2.1 ∧ K (pc + 3) L r (wL h o lk.1 x)
    | 2, .ref x :: .ref o :: r => okc h o lk.2.2.1 ∧ K (pc + 3) L r (wR h o lk.1 (some x))
    | 3, .int x :: .ref o :: r => okc h o lk.2.2.1 ∧ (x = 0 ∨ x = 1) ∧ K (pc + 3) L r (wI h o lk.1 x)
    | _, _ => False
  | .invokestatic _ => match lk.2.1, S with
    | 7, .int n :: .int dp :: .ref b :: .int sp :: .ref a :: r => ((hs h a).1 = 1 ∧ (hs h b).1 = 1) ∧ (¬ sp < 0 ∧ ¬ dp < 0 ∧ ¬ n < 0) ∧ (sp.toNatClampNeg + n.toNatClampNeg ≤ (hs h a).2 ∧ dp.toNatClampNeg + n.toNatClampNeg ≤ (hs h b).2) ∧ ct r (K (pc + 3) L r (wC h a sp.toNatClampNeg b dp.toNatClampNeg n.toNatClampNeg))
    | 10, .int y :: .int x :: r => ct r (K (pc + 3) L (.int (if x < y then y else x) :: r) h)
    | 11, .int y :: .int x :: r => ct r (K (pc + 3) L (.int (if y < x then y else x) :: r) h)
    | _, _ => False
  | .invokespecial _ => r1 S fun _ r => ct r (K (pc + 3) L r h)
  | .invokevirtual _ => match lk.2.1, S with
    | 8, .retAddr q :: r => q < X.2.1 ∧ ct r (K (pc + 3) L (.int (nI (X.2.2.1 q)) :: r) h)
    | 9, .int i :: .retAddr q :: r => q < X.2.1 ∧ ix i (X.2.2.1 q) ∧ ct r (K (pc + 3) L (.int (X.2.2.2 q i.toNatClampNeg) :: r) h)
    | _, _ => False
  | _ => False
/-! elimination of the stack's patterns -/
theorem i1_e {S : List Value} {K : Int32 → List Value → Prop} (h : i1 S K) : ∃ x r, S = .int x :: r ∧ K x r := by
  unfold i1 at h; split at h
  · exact ⟨_, _, rfl, h⟩
  · exact h.elim
theorem l1_e {S : List Value} {K : Int64 → List Value → Prop} (h : l1 S K) : ∃ x r, S = .long x :: r ∧ K x r := by
  unfold l1 at h; split at h
  · exact ⟨_, _, rfl, h⟩
  · exact h.elim
theorem r1_e {S : List Value} {K : Nat → List Value → Prop} (h : r1 S K) : ∃ x r, S = .ref x :: r ∧ K x r := by
  unfold r1 at h; split at h
  · exact ⟨_, _, rfl, h⟩
  · exact h.elim
theorem i2_e {S : List Value} {K : Int32 → Int32 → List Value → Prop} (h : i2 S K) : ∃ x y r, S = .int y :: .int x :: r ∧ K x y r := by
  unfold i2 at h; split at h
  · exact ⟨_, _, _, rfl, h⟩
  · exact h.elim
theorem l2_e {S : List Value} {K : Int64 → Int64 → List Value → Prop} (h : l2 S K) : ∃ x y r, S = .long y :: .long x :: r ∧ K x y r := by
  unfold l2 at h; split at h
  · exact ⟨_, _, _, rfl, h⟩
  · exact h.elim
theorem ir_e {S : List Value} {K : Int32 → Nat → List Value → Prop} (h : ir S K) : ∃ i a r, S = .int i :: .ref a :: r ∧ K i a r := by
  unfold ir at h; split at h
  · exact ⟨_, _, _, rfl, h⟩
  · exact h.elim
theorem swt_pick {x : Int32} {d : Nat} {K : Nat → Prop} : ∀ (l : List (Nat × Nat)), swt x d K l → ∃ t, K t ∧ ∀ K' : Nat → Prop, K' t → swt x d K' l
  | [], h => ⟨d, h, fun _ h => h⟩
  | c :: r, h => by
    by_cases q : x = nI c.1
    · exact ⟨c.2, h.1 q, fun K' h' => ⟨fun _ => h', fun q' => absurd q q'⟩⟩
    · obtain ⟨t, h1, h2⟩ := swt_pick r (h.2 q)
      exact ⟨t, h1, fun K' h' => ⟨fun q' => absurd q' q, fun _ => h2 K' h'⟩⟩
theorem br_pick {c A B : Prop} (w : (c → A) ∧ (¬ c → B)) : (c ∧ A) ∨ (¬ c ∧ B) := (Classical.em c).elim (fun q => Or.inl ⟨q, w.1 q⟩) (fun q => Or.inr ⟨q, w.2 q⟩)
/-- an instruction goes on at one place, and the heap's numbers only grow -/
theorem wpI_pick {X : Cst} {i : Instr} {lk : Lk} {pc : Nat} {L : Lo} {S : List Value} {h : AH} {K : Cont} (w : wpI X i lk pc L S h K) :
    ∃ pc' L' S' h', K pc' L' S' h' ∧ (hn h ≤ hn h' ∧ hz h ≤ hz h') ∧ ∀ K' : Cont, K' pc' L' S' h' → wpI X i lk pc L S h K' := by
  have rf : hn h ≤ hn h ∧ hz h ≤ hz h := ⟨Nat.le_refl _, Nat.le_refl _⟩
  have gr : ∀ t z, hn h ≤ hn (aN h t z) ∧ hz h ≤ hz (aN h t z) := fun t z => ⟨Nat.le_succ _, Nat.le_add_right _ _⟩
  cases i <;> simp only [wpI] at w ⊢
  all_goals first
    | exact w.elim
    | exact ⟨_, _, _, _, w, rf, fun _ h => h⟩
    | exact ⟨_, _, _, _, w, gr _ _, fun _ h => h⟩
    | (obtain ⟨x, r, rfl, w⟩ := i1_e w; exact ⟨_, _, _, _, w, rf, fun _ h => h⟩)
    | (obtain ⟨x, r, rfl, w⟩ := l1_e w; exact ⟨_, _, _, _, w, rf, fun _ h => h⟩)
    | (obtain ⟨x, r, rfl, w⟩ := r1_e w; exact ⟨_, _, _, _, w, rf, fun _ h => h⟩)
    | (obtain ⟨x, r, rfl, w⟩ := r1_e w; obtain ⟨w0, w⟩ := ct_e w; exact ⟨_, _, _, _, w, rf, fun _ h => ct_i w0 h⟩)
    | (obtain ⟨x, y, r, rfl, w⟩ := i2_e w; exact ⟨_, _, _, _, w, rf, fun _ h => h⟩)
    | (obtain ⟨x, y, r, rfl, w⟩ := l2_e w; exact ⟨_, _, _, _, w, rf, fun _ h => h⟩)
    | (obtain ⟨x, y, r, rfl, w0, w⟩ := i2_e w; exact ⟨_, _, _, _, w, rf, fun _ h => ⟨w0, h⟩⟩)
    | (obtain ⟨x, y, r, rfl, w0, w⟩ := l2_e w; exact ⟨_, _, _, _, w, rf, fun _ h => ⟨w0, h⟩⟩)
    | (obtain ⟨x, r, rfl, w0, w1, w⟩ := i1_e w; exact ⟨_, _, _, _, w, gr _ _, fun _ h => ⟨w0, w1, h⟩⟩)
    | (obtain ⟨x, y, r, rfl, w0, w1, w⟩ := ir_e w; exact ⟨_, _, _, _, w, rf, fun _ h => ⟨w0, w1, h⟩⟩)
    | (obtain ⟨x, y, r, rfl, w0, w1, q, w2, w⟩ := ir_e w; exact ⟨_, _, _, _, w, rf, fun _ h => ⟨w0, w1, q, w2, h⟩⟩)
    | (obtain ⟨x, r, rfl, w⟩ := i1_e w; obtain ⟨t, w1, w2⟩ := swt_pick _ w; exact ⟨_, _, _, _, w1, rf, fun K' h' => w2 (fun t => K' t L r h) h'⟩)
    | (obtain ⟨x, r, rfl, w⟩ := i1_e w; rcases br_pick w with ⟨q, w⟩ | ⟨q, w⟩
       · exact ⟨_, _, _, _, w, rf, fun _ h => ⟨fun _ => h, fun q' => absurd q q'⟩⟩
       · exact ⟨_, _, _, _, w, rf, fun _ h => ⟨fun q' => absurd q' q, fun _ => h⟩⟩)
    | (obtain ⟨x, y, r, rfl, w⟩ := i2_e w; rcases br_pick w with ⟨q, w⟩ | ⟨q, w⟩
       · exact ⟨_, _, _, _, w, rf, fun _ h => ⟨fun _ => h, fun q' => absurd q q'⟩⟩
       · exact ⟨_, _, _, _, w, rf, fun _ h => ⟨fun q' => absurd q' q, fun _ => h⟩⟩)
    | skip
  all_goals first
    | (split at w <;> first
        | exact w.elim
        | exact ⟨_, _, _, _, w, rf, fun _ h => h⟩
        | exact ⟨_, _, _, _, w.2, rf, fun _ h => ⟨w.1, h⟩⟩
        | exact ⟨_, _, _, _, w.2.2, rf, fun _ h => ⟨w.1, w.2.1, h⟩⟩
        | exact ⟨_, _, _, _, w.2.2.2, rf, fun _ h => ⟨w.1, w.2.1, w.2.2.1, h⟩⟩
        | exact ⟨_, _, _, _, (ct_e w).2, rf, fun _ h => ct_i (ct_e w).1 h⟩
        | exact ⟨_, _, _, _, (ct_e w.2.2.2).2, rf, fun _ h => ⟨w.1, w.2.1, w.2.2.1, ct_i (ct_e w.2.2.2).1 h⟩⟩
        | exact ⟨_, _, _, _, (ct_e w.2).2, rf, fun _ h => ⟨w.1, ct_i (ct_e w.2).1 h⟩⟩
        | exact ⟨_, _, _, _, (ct_e w.2.2).2, rf, fun _ h => ⟨w.1, w.2.1, ct_i (ct_e w.2.2).1 h⟩⟩)
    | (split at w
       · rcases w with ⟨w0, w1, w⟩ | ⟨w0, w1, w⟩
         · exact ⟨_, _, _, _, w, rf, fun _ h => Or.inl ⟨w0, w1, h⟩⟩
         · exact ⟨_, _, _, _, w, rf, fun _ h => Or.inr ⟨w0, w1, h⟩⟩
       · exact w.elim)
    | (obtain ⟨x, r, rfl, w0, w⟩ := r1_e w
       simp only [r1]
       split at w
       · exact ⟨_, _, _, _, w, rf, fun _ h => ⟨w0, h⟩⟩
       · exact ⟨_, _, _, _, w, rf, fun _ h => ⟨w0, h⟩⟩
       · obtain ⟨q, w1, w⟩ := w
         exact ⟨_, _, _, _, w, rf, fun _ h => ⟨w0, q, w1, h⟩⟩
       · exact ⟨_, _, _, _, w, rf, fun _ h => ⟨w0, h⟩⟩)
theorem wpI_mono {X : Cst} {i : Instr} {lk : Lk} {pc : Nat} {L : Lo} {S : List Value} {h : AH} {K K' : Cont} (w : wpI X i lk pc L S h K) (k : ∀ pc' L' S' h', K pc' L' S' h' → K' pc' L' S' h') : wpI X i lk pc L S h K' := by
  obtain ⟨pc', L', S', h', a, -, b⟩ := wpI_pick w
  exact b K' (k _ _ _ _ a)
/-- the locals at a method's entry -/
def entL (n : Nat) (As : List Value) : Lo := (As.flatMap fun v => match v with
  | .long _ => [some v, none]
  | .double _ => [some v, none]
  | _ => [some v]) ++ List.replicate (n - (As.map Value.category).sum) none
abbrev Post : Type := Option Value → AH → Prop
/-- the program: of a method's number and a place the row; how many locals a method has -/
abbrev Prg : Type := (Nat → Nat → Option Row) × (Nat → Nat)
def clW (P : Prg) (rec : Nat → Nat → Nat → Lo → List Value → AH → Post → Prop) (d y : Nat) (As rest : List Value) (h : AH) (C : Post) : Prop := match d with
  | 0 => False
  | d + 1 => match decide ((As.map Value.category).sum ≤ P.2 y ∧ (rest.map Value.category).sum ≤ 8) with
    | true => rec d y 0 (entL (P.2 y) As) [] h C
    | false => False
/-- n steps at most, d calls deep at most -/
def wpn (X : Cst) (P : Prg) : Nat → Nat → Nat → Nat → Lo → List Value → AH → Post → Prop
  | 0, _, _, _, _, _, _, _ => False
  | n + 1, d, y, pc, L, S, h, Q => match P.1 y pc with
    | none => False
    | some (i, lk) => match i with
      | .ireturn => match S with
        | [.int x] => (lk.1 = 0 ∨ x = 0 ∨ x = 1) ∧ Q (some (.int x)) h
        | _ => False
      | .lreturn => match S with
        | [.long x] => Q (some (.long x)) h
        | _ => False
      | .areturn => match S with
        | [.ref x] => Q (some (.ref x)) h
        | [.retAddr x] => Q (some (.retAddr x)) h
        | _ => False
      | .return_ => match S with
        | [] => Q none h
        | _ => False
      | .invokestatic k => match lk.2.2.1 with
        | [] => wpI X (.invokestatic k) lk pc L S h (fun pc' L' S' h' => wpn X P n d y pc' L' S' h' Q)
        | (_, z) :: _ => match decide (lk.1 ≤ S.length) with
          | true => clW P (wpn X P n) d z (S.take lk.1).reverse (S.drop lk.1) h (fun v h' => wpn X P n d y (pc + 3) L (v.toList ++ S.drop lk.1) h' Q)
          | false => False
      | .invokespecial k => match lk.2.2.1 with
        | [] => wpI X (.invokespecial k) lk pc L S h (fun pc' L' S' h' => wpn X P n d y pc' L' S' h' Q)
        | (_, z) :: _ => match S.drop lk.1 with
          | .ref o :: r => clW P (wpn X P n) d z (.ref o :: (S.take lk.1).reverse) r h (fun v h' => wpn X P n d y (pc + 3) L (v.toList ++ r) h' Q)
          | _ => False
      | .invokevirtual k => match lk.2.2.1 with
        | [] => wpI X (.invokevirtual k) lk pc L S h (fun pc' L' S' h' => wpn X P n d y pc' L' S' h' Q)
        | c :: cs => match S.drop lk.1 with
          | .ref o :: r => cal h o (fun z => clW P (wpn X P n) d z (.ref o :: (S.take lk.1).reverse) r h (fun v h' => wpn X P n d y (pc + 3) L (v.toList ++ r) h' Q)) (c :: cs)
          | _ => False
      | i => wpI X i lk pc L S h (fun pc' L' S' h' => wpn X P n d y pc' L' S' h' Q)
