section S15z
variable {p : Program} {l : Launch} {e : Env} {R : Room} {s : State} {m : MethodId} {args : Array Value} {below : List Frame} {meth : Method} {c : Code} {T : State} {locs : List Loc} {cells slots : Nat}
/-- a static method that the named class inherits: the entry is resolved, then it is as any static call -/
theorem up_static (Y : Stand p l e R s m args below meth c T locs cells slots) (hx : p.tables.exec = Jvm.exec) {own owner : String} {index : Nat} {x : MethodName} (hown : s.vm.findClass own = some m.cls) (hl : (Cond.methodLink own index x).before args s = true)
    (hsm : (Cond.sameMethod x.cls owner x.name x.desc).before args s = true) (how : owner ≠ "java/lang/invoke/MethodHandle" ∧ owner ≠ "java/lang/invoke/VarHandle") {mk : MethodId} {mt : Method} {kO : Class} (hnm : s.methodNamed? ⟨owner, x.name, x.desc⟩ = some mk) (hmt : s.vm.method? mk = some mt) (hst : mt.isStatic = true)
    (hkO : s.vm.classes[mk.cls]? = some kO) (hini : kO.init = .initialized) {g : JFrame} (hg : g.method = m) {As rest : List Value} (hlen : As.length = mt.sig.parameters.length) (hstk : g.stack = As.reverse ++ rest) (hdg : decode c.code g.pc = .ok (.invokestatic index, 3)) :
    ∃ v1, Stand p l e R s m args below meth c (T.setVm v1) locs cells slots ∧ ∀ tg, (∀ acts, Steps p.tables e below (doInvoke e ((T.setVm v1).setTop { g with stack := rest }) acts mk As.toArray).1 tg) → Steps p.tables e below (T.setTop g) tg := by
  subst hg
  have hplat := Y.admits.platform
  obtain ⟨cn, ck, mk', hcn, hck, hnif, hfnd, hnm'⟩ := Cond.sameMethod_found hsm
  obtain rfl : mk = mk' := Option.some.inj (hnm.symm.trans hnm')
  obtain ⟨ci, hlink, hright⟩ := Cond.methodLink_specUp hown hcn hck hnif hfnd hl e.platform (by rw [hplat]) (by rw [hplat])
  have hen := State.methodEntryUp (e := e) Y.warmed hlink hright
  obtain ⟨kN, hkN, hname⟩ := className_of_methodNamed hnm
  obtain rfl : kO = kN := Option.some.inj (hkO.symm.trans hkN)
  obtain ⟨dk, cf, nt, nm, ds, ck', _, _, g1, g2, g3, g4, -, -, g5, -, g6, -⟩ := hlink.here
  obtain rfl : ck = ck' := Option.some.inj (hck.symm.trans g5)
  obtain ⟨f1, f2, f3, f4⟩ := hen.classFirst
  have al := hen.warmed.alike
  obtain ⟨d0, hd0, ed0⟩ := Y.warmed.alike.2.2 _ _ g1
  obtain ⟨d2, hd2, ed2⟩ := al.2.2 _ _ g1
  obtain ⟨c1, hc1, ec1⟩ := f3.alike.2.2 _ _ hck
  obtain ⟨c2, hc2, ec2⟩ := al.2.2 _ _ hck
  obtain ⟨k2, hk2, ek2⟩ := al.2.2 _ _ hkO
  have np : (ck.methods.any fun y => y.name == nm && !y.isStatic && signaturePolymorphic ck y) = false := by simp [g6]
  have n1 : (c1.methods.any fun y => y.name == nm && !y.isStatic && signaturePolymorphic c1 y) = false := by rw [ec1]; exact np
  have n2 : (c2.methods.any fun y => y.name == nm && !y.isStatic && signaturePolymorphic c2 y) = false := by rw [ec2]; exact np
  have g3' : cf.constantPool[index]? = some (if false then .interfaceMethodref ci nt else .methodref ci nt) := g3
  have m0 := memberRef_ask_via (e := e) hd0 (by rw [ed0]; exact g2) g3' g4
  have m2 := memberRef_ask_via (e := e) hd2 (by rw [ed2]; exact g2) g3' g4
  have hpoly : e.platform.polymorphicOnlyByInvokevirtual = true := by rw [hplat]
  have t0 : T.topJava?.isSome := Y.here.top
  have t1 : (T.setVm (T.vm.noted g.method.cls ci (.cls cn))).topJava?.isSome := t0
  have t2 : (T.setVm (T.vm.calledUp g.method.cls ci index cn mk)).topJava?.isSome := t0
  refine ⟨T.vm.calledUp g.method.cls ci index cn mk, Y.noted hen.warmed, fun tg hgo => ?_⟩
  -- from the state that hasn't asked yet to the one that has
  have cold : ∀ {Q : Unit → Pre} {E : CtlPost} {dd : Bool} {acts : List Action}, wp (invokestatic.sem index) Q E e dd acts (T.setTop g) ↔ wp (invokestatic.sem index) Q E e dd acts ((T.setVm (T.vm.calledUp g.method.cls ci index cn mk)).setTop g) := by
    intro Q E dd acts
    have r1 : ∀ {Q' : ClassId → Pre} {d' : Bool} {a' : List Action}, wp (Jvm.resolveClassAt ci) Q' E e d' a' (T.setTop g) ↔ Q' cn d' a' ((T.setVm (T.vm.noted g.method.cls ci (.cls cn))).setTop g) := W.resolveClassAt_links (t := T.setTop g) (State.method?_setTop g t0) f1
    have r2 : ∀ {Q' : MethodId → Pre} {d' : Bool} {a' : List Action}, wp (Jvm.resolveMethodAt index) Q' E e d' a' ((T.setVm (T.vm.noted g.method.cls ci (.cls cn))).setTop g) ↔ Q' mk d' a' ((T.setVm (T.vm.calledUp g.method.cls ci index cn mk)).setTop g) := W.resolveMethodAt_links (t := (T.setVm (T.vm.noted g.method.cls ci (.cls cn))).setTop g) (State.method?_setTop g t1) f4
    simp [invokestatic.sem, hpoly, Seam.memberRefOf, State.method?_setTop g t0, State.method?_setTop g t2, m0, m2, r1, W.resolveClassAt_ready (s := (T.setVm (T.vm.calledUp g.method.cls ci index cn mk)).setTop g) (State.method?_setTop g t2) hen.classReady, hc1, hc2, n1, n2, r2,
      W.resolveMethodAt_ready (s := (T.setVm (T.vm.calledUp g.method.cls ci index cn mk)).setTop g) (State.method?_setTop g t2) hen.ready, -Array.any_eq_true]
  jvm_step Y.here [hx, hdg, cold, invokestatic.wp_ready (e := e) (s := T.setVm (T.vm.calledUp g.method.cls ci index cn mk)) (k := k2) (meth := mt) (m := mk) (args := As) (rest := rest) (f := g) t0
    ⟨ci, nm, ds, false, cn, c2, m2, hen.classReady, hc2, n2⟩ hen.ready hk2 (by show (T.vm.calledUp g.method.cls ci index cn mk).method? mk = some mt; rw [al.method?]; exact hmt)
    (by rw [ek2]; show signaturePolymorphic kO mt = false; simp [signaturePolymorphic, hname, how.1, how.2]) hst (by rw [ek2]; exact hini) hlen hstk]
  exact fun acts => hgo _
variable {H : Heap}
/-- the call of such a method, by its contract -/
theorem run_up {y : MethodName} {bytes cc : ByteArray} {maxL nL mc ms n index : Nat} {ret : Option FieldType} {ws : List Cond} {rm : Room} {Pc : Array Value → State → Prop} {Qc : Array Value → State → Outcome → State → Prop} {free : Addr → Prop} {Ts : List Cond} {own xc : String} {As rest : List Value} {g : JFrame}
    (F : CallFix p m c cc nL s args Ts own) (hM : Met l y ws rm Pc Qc mc ms free) (hrm : rm.cells = mc ∧ rm.slots = ms ∧ rm.frames + 1 ≤ R.frames ∧ 8 + (maxL + 11) + rm.locals ≤ R.locals) (hws : ∀ w ∈ ws, ∀ (a' : Array Value) (U : State), s.WarmedH U.vm → w.before a' U = true) (hcw : Cond.code y bytes maxL ret ∈ ws)
    (hcode : (Cond.code y bytes maxL ret).before args s = true) (hini : (Cond.initialized y.cls).before args s = true) (hy : y.cls ≠ "java/lang/invoke/MethodHandle" ∧ y.cls ≠ "java/lang/invoke/VarHandle") (hlen : ∀ sig, parseMethodDescriptor y.desc = some sig → n = sig.parameters.length)
    (hl : (Cond.methodLink own index ⟨xc, y.name, y.desc⟩).before args s = true) (hsm : (Cond.sameMethod xc y.cls y.name y.desc).before args s = true) (hstt : (Cond.static y).before args s = true) (hp : PreS s H Pc As)
    (hg : g.method = m) (hn : As.length = n) (hsize : g.locals.size = nL) (hstack : g.stack = As.reverse ++ rest) (hW : 2 * g.monitorRoom + (rest.map fun v => v.category).sum ≤ 8) (hdg : decode cc g.pc = .ok (.invokestatic index, 3)) (hf : cells + mc ≤ R.cells ∧ slots + ms ≤ R.slots) :
    va_Run p l e R s m args below meth c H locs cells slots mc ms g rest (Qc As.toArray) free := by
  have hK : Back l R p e below s args y 3 8 (PreOf R mc ms Pc) (PostOf Qc mc ms free) := back_of (bytes := bytes) (maxL := maxL) (ret := ret) hM hp.1 hrm.1 hrm.2.1 hrm.2.2.1 hrm.2.2.2 hws hcw (fun a' U hWm => word_at hWm (Or.inl (by first | rfl | simp [Cond.onTables, Cond.keeps, Cond.steady])) hini)
  obtain ⟨hx, hb, hml, ho, -⟩ := F
  obtain ⟨mk, hnamed⟩ := Cond.code_named hcode
  obtain ⟨mt, cM, hmt, -, -, -, -, -, -, hsig⟩ := Cond.code_spec hnamed hcode
  obtain ⟨kP, hkP, -⟩ := className_of_methodNamed hnamed
  intro T hT Y
  obtain ⟨v1, Y1, st1⟩ := up_static Y hx (x := ⟨xc, y.name, y.desc⟩) (owner := y.cls) ho hl hsm hy (mk := mk) hnamed hmt (Cond.static_spec hnamed hmt hstt) hkP (Cond.initialized_spec (findClass_of_methodNamed hnamed) hkP hini) (g := g) hg (As := As) (rest := rest) (hn.trans (hlen _ hsig)) hstack (by rw [hb]; exact hdg)
  obtain ⟨v, ⟨U', l2, c2, s2⟩, Y2, ⟨g', mk2, t, L2, e1, e2, hq, h1, hL2, h2, h3⟩, st⟩ := hK m meth c ⟨T.setVm v1, locs, cells, slots⟩ { g with stack := rest } (.invokestatic index) mk As.toArray Y1 hg (hsize.trans hml.symm) (by rw [hb]; exact hdg) hW (Y1.named hnamed) ⟨hf.1, hf.2, hp.2 (T.setVm v1) hT Y1.warmed⟩
  dsimp only [Pt.U, Pt.locs, Pt.cells, Pt.slots] at Y2 e1 e2 h1 h2 h3 st
  subst h1; subst h2; subst h3
  exact ⟨v, (T.setVm v1).calling g' mk2 As.toArray, t, U', L2, hT, Y2, hL2, e1, e2, hq, fun tg a => st1 tg fun acts => by rw [doInvoke_state]; exact st.trans a⟩
end S15z
