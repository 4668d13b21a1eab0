/-! what the tables must say of a row: by places of the words -/
def wat (p : Nat) (w : Cond) : Bool := decide (gtb[p]? = some w) && goodWord w
theorem wat_in {p : Nat} {w : Cond} (h : wat p w = true) : w ∈ gws := by
  simp only [wat, Bool.and_eq_true, decide_eq_true_eq] at h
  exact List.mem_filter.mpr ⟨List.mem_of_getElem? h.1, h.2⟩
/-- a word that is no good word: it's carried apart -/
def nat_ (p : Nat) (w : Cond) : Bool := decide (gtb[p]? = some w)
/-- string constants: class, place, which text -/
def strT : List (String × Nat × Nat × String) := [("OutwardDoors$CastleReader", 82, 0, "castle"), ("OutwardDoors$CastleReader", 88, 1, "far"), ("OutwardDoors$CastleReader", 90, 2, "door"), ("OutwardDoors$CastleReader", 92, 3, "window"), ("OutwardDoors$CastleReader", 94, 4, "night"), ("OutwardDoors$CastleReader", 96, 5, "person"), ("OutwardDoors$RuleReader", 62, 6, "go"), ("OutwardDoors$Rule", 25, 5, "person"), ("OutwardDoors$Rule", 27, 7, "room"), ("OutwardDoors$Rule", 29, 1, "far"), ("OutwardDoors$Rule", 31, 8, "goal"), ("OutwardDoors$Rule", 33, 9, "left"), ("OutwardDoors$Rule", 35, 10, "pay"), ("OutwardDoors$Rule", 37, 11, "moment"), ("OutwardDoors$Rule", 39, 4, "night"), ("OutwardDoors$Rule", 41, 12, "here"), ("OutwardDoors$Rule", 43, 13, "in"), ("OutwardDoors$Rule", 45, 14, "out"), ("OutwardDoors$Rule", 47, 15, "asked"), ("OutwardDoors$RuleReader", 46, 16, "if"), ("OutwardDoors$RuleReader", 87, 17, "not"), ("OutwardDoors$RuleReader", 83, 18, "and"), ("OutwardDoors$RuleReader", 85, 19, "or")]
def sNum : Nat := 20
def sLen : List Nat := [6, 3, 4, 6, 5, 6, 2, 4, 4, 4, 3, 6, 4, 2, 3, 5, 2, 3, 3, 2]
def sByt : List (List Int32) := [[99, 97, 115, 116, 108, 101], [102, 97, 114], [100, 111, 111, 114], [119, 105, 110, 100, 111, 119], [110, 105, 103, 104, 116], [112, 101, 114, 115, 111, 110], [103, 111], [114, 111, 111, 109], [103, 111, 97, 108], [108, 101, 102, 116], [112, 97, 121], [109, 111, 109, 101, 110, 116], [104, 101, 114, 101], [105, 110], [111, 117, 116], [97, 115, 107, 101, 100], [105, 102], [110, 111, 116], [97, 110, 100], [111, 114]]
def X2 : Nat × (Nat → Nat) × (Nat → Nat → Int32) := (sNum, fun i => sLen.getD i 0, fun i j => (sByt.getD i []).getD j 0 &&& 255)
def aos : List String := ["OutwardDoors$Rule", "OutwardDoors$Scene", "OutwardDoors$World"]
def ilen (i : Instr) (lk : Lk) : Nat := match i with
  | .bipush _ | .ldc _ | .iload _ | .lload _ | .aload _ | .istore _ | .lstore _ | .astore _ | .newarray _ => 2
  | .sipush _ | .ldc_w _ | .ldc2_w _ | .iinc _ _ | .goto _ | .ifCond _ _ | .if_icmp _ _ | .anewarray _ | .new _ | .getfield _ | .putfield _ | .invokestatic _ | .invokespecial _ | .invokevirtual _ => 3
  | .tableswitch _ _ _ _ => lk.2.1
  | _ => 1
def tcode (t : FieldType) : Nat := match t with
  | .int => 0
  | .long => 1
  | .object _ => 2
  | .array _ => 2
  | .boolean => 3
  | _ => 9
/-- a field's link: place, the field's number k of class c -/
def fok (own : String) (idx k ty : Nat) (hp : List Nat) (c : Nat) : Bool := match CL[c]?, hp with
  | some q, [p] => decide (k < q.2.2) && decide (q.2.2 = gN c) && decide (tcode (gY c k) = ty) && wat p (.fieldLink own idx (q.2.1 k).1 (q.2.1 k).2.1 (q.2.1 k).2.2.1)
  | some q, [p, r] => match gtb[r]? with
    | some (.sameField ref ow nm ds) => decide (k < q.2.2) && decide (q.2.2 = gN c) && decide (tcode (gY c k) = ty) && wat p (.fieldLink own idx ref (q.2.1 k).2.1 (q.2.1 k).2.2.1) && wat r (.sameField ref ow nm ds) && decide (ow = (q.2.1 k).1) && decide (nm = (q.2.1 k).2.1) && decide (ds = (q.2.1 k).2.2.1)
    | _ => false
  | _, _ => false
def npar (d : String) : Option Nat := (parseMethodDescriptor d).map fun q => q.parameters.length
def okcls (c : String) : Bool := decide (c ≠ "java/lang/invoke/MethodHandle") && decide (c ≠ "java/lang/invoke/VarHandle")
def rok (own : String) (isInit : Bool) (ml : Nat) (rt : Option FieldType) (cc : ByteArray) (pc : Nat) (i : Instr) (lk : Lk) (hp : List Nat) : Bool :=
  decide (decode cc pc = .ok (i, ilen i lk)) && match i with
  | .ireturn => match lk.1 with
    | 0 => decide (rt = some .int)
    | _ => decide (rt = some .boolean)
  | .lreturn => decide (rt = some .long)
  | .areturn => match rt with
    | some (.object _) => true
    | some (.array _) => true
    | _ => false
  | .return_ => decide (rt = none)
  | .istore_n k => decide (k.val < ml)
  | .istore k => decide (k < ml)
  | .astore_n k => decide (k.val < ml)
  | .astore k => decide (k < ml)
  | .iinc k _ => decide (k < ml)
  | .lstore_n k => decide (k.val + 1 < ml)
  | .lstore k => decide (k + 1 < ml)
  | .goto o => decide ((pc : Int) + o = (lk.1 : Int))
  | .ifCond _ o => decide ((pc : Int) + o = (lk.1 : Int))
  | .if_icmp _ o => decide ((pc : Int) + o = (lk.1 : Int))
  | .tableswitch d lo hi offs => decide (0 ≤ lo) && decide (hi < 2147483648) && decide ((pc : Int) + d = (lk.1 : Int)) && decide (lk.2.2.1.length = (hi - lo + 1).toNat) && (List.range lk.2.2.1.length).all fun j => match lk.2.2.1[j]?, offs[j]? with
    | some c, some o => decide (c.1 = lo.toNat + j) && decide ((pc : Int) + o = (c.2 : Int))
    | _, _ => false
  | .ldc k => match lk.2.1, hp with
    | 0, [p] => wat p (.constant own k (Int32.ofInt lk.2.2.2))
    | 0, _ => false
    | _, _ => strT.any fun q => decide (q.1 = own) && decide (q.2.1 = k) && decide (q.2.2.1 = lk.1)
  | .ldc_w k => match hp with
    | [p] => wat p (.constant own k (Int32.ofInt lk.2.2.2))
    | _ => false
  | .ldc2_w k => match hp with
    | [p] => wat p (.constantLong own k (Int64.ofInt lk.2.2.2))
    | _ => false
  | .newarray t => decide (1 ≤ lk.1 ∧ lk.1 ≤ 4) && decide (newarray.typeOf t = tyA lk.1) && match hp with
    | [p] => wat p (.arrayClass (newarray.typeOf t))
    | _ => false
  | .anewarray k => decide (lk.1 < CL.length) && decide (clN lk.1 ∈ aos) && match hp with
    | [p] => wat p (.classLink own k (clN lk.1))
    | _ => false
  | .new k => decide (lk.1 < CL.length) && decide (lk.2.1 = gN lk.1) && match hp with
    | [p, q, r] => wat p (.classLink own k (clN lk.1)) && wat q (.instantiable (clN lk.1) lk.2.1) && wat r (.initialized (clN lk.1))
    | _ => false
  | .getfield k => lk.2.2.1.all fun c => fok own k lk.1 lk.2.1 hp c.1
  | .putfield k => lk.2.2.1.all fun c => fok own k lk.1 lk.2.1 hp c.1 && match CL[c.1]? with
    | some q => !(q.2.1 lk.1).2.2.2 || (isInit && decide ((q.2.1 lk.1).1 = own))
    | none => false
  | .invokestatic k => match lk.2.2.1, hp with
    | [], [p] => decide (lk.2.1 = 7) && wat p (.methodLink own k arraycopyName)
    | [], [p, q, r, t] => (decide (lk.2.1 = 10) && wat p (.methodLink own k Lib.Math.max.name) && wat q (.initialized "java/lang/Math") && wat r (.static Lib.Math.max.name) && wat t (.code Lib.Math.max.name Lib.Math.max.code 2 (some .int))) || (decide (lk.2.1 = 11) && wat p (.methodLink own k Lib.Math.min.name) && wat q (.initialized "java/lang/Math") && wat r (.static Lib.Math.min.name) && wat t (.code Lib.Math.min.name Lib.Math.min.code 2 (some .int)))
    | (_, z) :: _, hp => match gMt[z]?, lk.2.1, hp with
      | some y, 0, [p, q, r] => okcls y.1.cls && decide (npar y.1.desc = some lk.1) && wat p (.methodLink own k y.1) && wat q (.initialized y.1.cls) && wat r (.static y.1)
      | some y, 1, [p, q, r] => okcls y.1.cls && decide (npar y.1.desc = some lk.1) && nat_ p (.methodLinkNest own k y.1 "OutwardDoors") && wat q (.initialized y.1.cls) && wat r (.static y.1)
      | some y, 2, [p, q, r, t] => match gtb[t]? with
        | some (.sameMethod c ow nm ds) => okcls y.1.cls && okcls c && decide (npar y.1.desc = some lk.1) && wat p (.methodLink own k ⟨c, y.1.name, y.1.desc⟩) && wat q (.initialized y.1.cls) && wat r (.static y.1) && wat t (.sameMethod c y.1.cls y.1.name y.1.desc)
        | _ => false
      | _, _, _ => false
    | _, _ => false
  | .invokespecial k => match lk.2.2.1, hp with
    | [], [p] => decide (lk.2.1 = 6) && wat p (.methodLink own k Lib.objectInit)
    | (_, z) :: _, hp => match gMt[z]?, lk.2.1, hp with
      | some y, 0, [p, q, r] => decide (y.1.name = "<init>") && decide (y.2.2.2 = none) && okcls y.1.cls && decide (npar y.1.desc = some lk.1) && wat p (.methodLink own k y.1) && wat q (.initialized y.1.cls) && wat r (.instanceMethod y.1)
      | some y, 1, [p, q, r] => decide (y.1.name = "<init>") && decide (y.2.2.2 = none) && okcls y.1.cls && decide (npar y.1.desc = some lk.1) && nat_ p (.methodLinkNest own k y.1 "OutwardDoors") && wat q (.initialized y.1.cls) && wat r (.instanceMethod y.1)
      | _, _, _ => false
    | _, _ => false
  | .invokevirtual k => match lk.2.2.1, hp with
    | [], [p] => (decide (lk.2.1 = 8) && decide (lk.1 = 0) && wat p (.methodLink own k ⟨"java/lang/String", "length", "()I"⟩)) || (decide (lk.2.1 = 9) && decide (lk.1 = 1) && wat p (.methodLink own k ⟨"java/lang/String", "charAt", "(I)C"⟩))
    | [(c, z)], [p, q, r, t] => match gMt[z]?, lk.2.1 with
      | some y, 0 => decide (clN c = y.1.cls) && decide (c < CL.length) && okcls y.1.cls && decide (npar y.1.desc = some lk.1) && wat p (.methodLink own k y.1) && wat q (.initialized y.1.cls) && wat r (.instanceMethod y.1) && wat t (.selects y.1.cls y.1 y.1)
      | _, _ => false
    | cs, p :: t :: hq => match gtb[t]? with
      | some (.sameMethod xc ow nm ds) => decide (0 < cs.length) && okcls ow && decide (npar ds = some lk.1) && wat p (.methodLink own k ⟨xc, nm, ds⟩) && wat t (.sameMethod xc ow nm ds) && (decide (lk.2.1 = 3) || nat_ 1134 (.declares ⟨ow, nm, ds⟩)) && decide (hq.length = 3 * cs.length) && (List.range cs.length).all fun j => match cs[j]?, hq[3 * j]?, hq[3 * j + 1]?, hq[3 * j + 2]? with
        | some c, some a1, some a2, some a3 => match gMt[c.2]? with
          | some y => decide (c.1 < CL.length) && (decide (lk.2.1 = 4) || decide (y.1 = ⟨ow, nm, ds⟩)) && decide (y.1.desc = ds) && wat a1 (.selects (clN c.1) ⟨xc, nm, ds⟩ y.1) && wat a2 (.instanceMethod y.1) && wat a3 (.initialized y.1.cls)
          | none => false
        | _, _, _, _ => false
      | _ => false
    | _, _ => false
  | _ => true
/-- all rows of a method -/
def rokM (own : String) (isInit : Bool) (ml : Nat) (rt : Option FieldType) (cc : ByteArray) (b : List (Nat × Row)) (hp : List (List Nat)) : Bool := (b.zip hp).all fun e => rok own isInit ml rt cc e.1.1 e.1.2.1 e.1.2.2 e.2
