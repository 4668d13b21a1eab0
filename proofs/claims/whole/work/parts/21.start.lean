def strF : List (String × Nat) := [("OutwardDoors$CastleReader", 82), ("OutwardDoors$CastleReader", 88), ("OutwardDoors$CastleReader", 90), ("OutwardDoors$CastleReader", 92), ("OutwardDoors$CastleReader", 94), ("OutwardDoors$CastleReader", 96), ("OutwardDoors$RuleReader", 62), ("OutwardDoors$Rule", 27), ("OutwardDoors$Rule", 31), ("OutwardDoors$Rule", 33), ("OutwardDoors$Rule", 35), ("OutwardDoors$Rule", 37), ("OutwardDoors$Rule", 41), ("OutwardDoors$Rule", 43), ("OutwardDoors$Rule", 45), ("OutwardDoors$Rule", 47), ("OutwardDoors$RuleReader", 46), ("OutwardDoors$RuleReader", 87), ("OutwardDoors$RuleReader", 83), ("OutwardDoors$RuleReader", 85)]
def tmF (i : Nat) : Term := .string (strF.getD i ("", 0)).1 (strF.getD i ("", 0)).2
abbrev flt : List Cond := flatC (Jvm.Cond.and given_1 narrow_1)
set_option maxRecDepth 100000 in
theorem fl_ex : ∀ i, i < sNum → Cond.exactly (tmF i) "java/lang/String" ∈ flt := by decide +kernel
set_option maxRecDepth 100000 in
theorem fl_co : ∀ i, i < sNum → Cond.eq (.field (tmF i) "java/lang/String" "coder" "B") (.int 0) ∈ flt := by decide +kernel
set_option maxRecDepth 100000 in
theorem fl_ar : ∀ i, i < sNum → Cond.arrayOf (.field (tmF i) "java/lang/String" "value" "[B") .byte ∈ flt := by decide +kernel
set_option maxRecDepth 100000 in
theorem fl_le : ∀ i, i < sNum → Cond.eq (.length (.field (tmF i) "java/lang/String" "value" "[B")) (.int (Int32.ofNat (sLen.getD i 0))) ∈ flt := by decide +kernel
set_option maxRecDepth 100000 in
theorem fl_el : ∀ i, i < sNum → ∀ j, j < sLen.getD i 0 → Cond.eq (.elem (.field (tmF i) "java/lang/String" "value" "[B") (.int (Int32.ofNat j))) (.int ((sByt.getD i []).getD j 0)) ∈ flt := by decide +kernel
set_option maxRecDepth 100000 in
theorem fl_cs : Cond.eq (.static "java/lang/String" "COMPACT_STRINGS" "Z") (.int 1) ∈ flt := by decide +kernel
set_option maxRecDepth 100000 in
theorem fl_si : Cond.isRef (.static "jdk/internal/util/Preconditions" "SIOOBE_FORMATTER" "Ljava/util/function/BiFunction;") ∈ flt := by decide +kernel
set_option maxRecDepth 100000 in
theorem st_all : (strT.all fun q => decide (Cond.stringRef q.1 q.2.1 q.2.2.2 ∈ lw_tbl) && decide (q.2.2.1 < sNum) && (decide (tmF q.2.2.1 = .string q.1 q.2.1) || decide (Cond.eq (tmF q.2.2.1) (.string q.1 q.2.1) ∈ flt))) = true := by decide +kernel
set_option maxRecDepth 100000 in
theorem in_all : ((List.range CL.length).all fun c => decide (Cond.instantiable (clN c) (gN c) ∈ lw_tbl)) = true := by decide +kernel
set_option maxRecDepth 100000 in
theorem ao_all : (aos.all fun C => decide (Cond.arrayOver (.object C) ∈ lw_tbl)) = true := by decide +kernel
set_option maxRecDepth 100000 in
theorem ls_cs : Cond.laysStatic "java/lang/String" "COMPACT_STRINGS" "Z" ∈ lw_tbl := by decide +kernel
set_option maxRecDepth 100000 in
theorem ls_si : Cond.laysStatic "jdk/internal/util/Preconditions" "SIOOBE_FORMATTER" "Ljava/util/function/BiFunction;" ∈ lw_tbl := by decide +kernel
set_option maxRecDepth 100000 in
theorem li_st : Cond.initialized "java/lang/String" ∈ lw_tbl := by decide +kernel
set_option maxRecDepth 100000 in
theorem li_pr : Cond.initialized "jdk/internal/util/Preconditions" ∈ lw_tbl := by decide +kernel
set_option maxRecDepth 100000 in
theorem xs0 : (Cond.instantiable "OutwardDoors$Pricer" 10 ∈ lw_tbl ∧ Cond.privateMethod ({ cls := "OutwardDoors$Passings", name := "comeInAlone", desc := "(I)V" } : Jvm.MethodName) ∈ lw_tbl) ∧ Cond.instanceMethod ({ cls := "OutwardDoors$Passings", name := "comeInAlone", desc := "(I)V" } : Jvm.MethodName) ∈ lw_tbl ∧ Cond.sameMethod "OutwardDoors$Passings" "OutwardDoors$Passings" "comeInAlone" "(I)V" ∈ lw_tbl := by decide +kernel
set_option maxRecDepth 100000 in
theorem xs1 : (Cond.instantiable "OutwardDoors$Search" 8 ∈ lw_tbl ∧ Cond.privateMethod ({ cls := "OutwardDoors$Passings", name := "comeInAlone", desc := "(I)V" } : Jvm.MethodName) ∈ lw_tbl) ∧ Cond.instanceMethod ({ cls := "OutwardDoors$Passings", name := "comeInAlone", desc := "(I)V" } : Jvm.MethodName) ∈ lw_tbl ∧ Cond.sameMethod "OutwardDoors$Passings" "OutwardDoors$Passings" "comeInAlone" "(I)V" ∈ lw_tbl := by decide +kernel
set_option maxRecDepth 100000 in
theorem xs2 : (Cond.instantiable "OutwardDoors$Pricer" 10 ∈ lw_tbl ∧ Cond.privateMethod ({ cls := "OutwardDoors$Passings", name := "passOut", desc := "(III)V" } : Jvm.MethodName) ∈ lw_tbl) ∧ Cond.instanceMethod ({ cls := "OutwardDoors$Passings", name := "passOut", desc := "(III)V" } : Jvm.MethodName) ∈ lw_tbl ∧ Cond.sameMethod "OutwardDoors$Passings" "OutwardDoors$Passings" "passOut" "(III)V" ∈ lw_tbl := by decide +kernel
set_option maxRecDepth 100000 in
theorem xs3 : (Cond.instantiable "OutwardDoors$Search" 8 ∈ lw_tbl ∧ Cond.privateMethod ({ cls := "OutwardDoors$Passings", name := "passOut", desc := "(III)V" } : Jvm.MethodName) ∈ lw_tbl) ∧ Cond.instanceMethod ({ cls := "OutwardDoors$Passings", name := "passOut", desc := "(III)V" } : Jvm.MethodName) ∈ lw_tbl ∧ Cond.sameMethod "OutwardDoors$Passings" "OutwardDoors$Passings" "passOut" "(III)V" ∈ lw_tbl := by decide +kernel
theorem up_sel {C : String} {y : MethodName} {s : State} {args : Array Value} {n : Nat} (hy : y.cls ≠ "java/lang/invoke/MethodHandle" ∧ y.cls ≠ "java/lang/invoke/VarHandle") (hi : (Cond.instantiable C n).before args s = true) (hp : (Cond.privateMethod y).before args s = true) (hm : (Cond.instanceMethod y).before args s = true) (hsm : (Cond.sameMethod y.cls y.cls y.name y.desc).before args s = true) : (Cond.selects C y y).before args s = true := by
  obtain ⟨cc, kc, h1, h2, -, -, -, -⟩ := Cond.instantiable_spec hi
  obtain ⟨mk, mt, h3, h4, -, -⟩ := Cond.instanceMethod_spec hm
  have h5 : s.methodFound? y.cls y.name y.desc = some mk := State.methodFound?_of_named h3 hy
  have h6 : selectMethod {} s.vm cc mk = .method mk := selectMethod_private h4 (Cond.privateMethod_at hp mk mt h3 h4)
  obtain ⟨kP, hkP, -⟩ := className_of_methodNamed h3
  obtain ⟨cn, ck, r1, g1, g2, g3, -, -⟩ := Cond.sameMethod_found hsm
  have hni : kP.isInterface = false := by
    cases (findClass_of_methodNamed h3).symm.trans g1
    cases hkP.symm.trans g2
    exact g3
  simp only [Cond.before, Cond.holds, Cond.value, h1, h5, h3, h6, hkP]
  simp; exact hni
theorem gtb_hts {args : Array Value} {s : State} (hts : ∀ w ∈ lw_tbl, w.before args s = true) : ∀ w ∈ gtb, w.before args s = true := by
  intro w hw
  rcases List.mem_append.mp hw with hw | hw
  · simp only [xsel, List.mem_cons, List.not_mem_nil, or_false] at hw
    rcases hw with rfl | rfl | rfl | rfl
    · exact up_sel (by decide) (hts _ xs0.1.1) (hts _ xs0.1.2) (hts _ xs0.2.1) (hts _ xs0.2.2)
    · exact up_sel (by decide) (hts _ xs1.1.1) (hts _ xs1.1.2) (hts _ xs1.2.1) (hts _ xs1.2.2)
    · exact up_sel (by decide) (hts _ xs2.1.1) (hts _ xs2.1.2) (hts _ xs2.2.1) (hts _ xs2.2.2)
    · exact up_sel (by decide) (hts _ xs3.1.1) (hts _ xs3.1.2) (hts _ xs3.2.1) (hts _ xs3.2.2)
  · exact hts w hw
theorem ES_start {args : Array Value} {s : State} {b L : Nat} {xs : Nat → Int32} (hts : ∀ w ∈ lw_tbl, w.before args s = true) (hX : va_X b L xs s s.heap) (hbl : b < s.heap.size) (hgv : (Jvm.Cond.and given_1 narrow_1).before args s = true) :
    ∃ (sa : Nat → Nat) (cA : Nat → ClassId) (D : va_G), sa SCR = b ∧ ES s.heap.size ((L, xs), X2) sa cA D s := by
  have hfl := flat_of_before _ hgv
  have hA : ∀ a : Nat, a < s.heap.size → ¬ (fun q => s.heap.size ≤ q) a := fun a h => Nat.not_le.mpr h
  have hgt := gtb_hts hts
  have hgw : ∀ w ∈ gws, w.before args s = true := fun w hw => hgt w (List.mem_filter.mp hw).1
  have hD0 : ∀ c : Nat, ∃ z : ClassId × (Nat → Nat), ∀ q, CL[c]? = some q → u_Kn s q.1 q.2.1 q.2.2 z.1 z.2 := by
    intro c
    cases hc : CL[c]? with
    | none => exact ⟨(0, fun _ => 0), fun q h => by cases h⟩
    | some q =>
      have hcl := (List.getElem?_eq_some_iff.mp hc).1
      have hin := List.all_eq_true.mp in_all c (List.mem_range.mpr hcl)
      have hnm : clN c = q.1 := by unfold clN; rw [hc]
      obtain ⟨cC, iS, h⟩ := u_known (C := q.1) (T := q.2.1) (N := q.2.2) (n := gN c) hgw (CL_lay hc) (by rw [← hnm]; exact hts _ (of_decide_eq_true hin))
      exact ⟨(cC, iS), fun q' h' => by cases h'; exact h⟩
  obtain ⟨dz, hdz⟩ := Classical.axiomOfChoice hD0
  have hK0 : ∀ i : Nat, ∃ z : Nat × Nat, i < sNum → (tmF i).eval args s none [] s = some (.ref z.1) ∧ va_O "java/lang/String" z.1 (fun q => s.heap.size ≤ q) s s.heap ∧ va_OF "java/lang/String" "coder" "B" (.int 0) z.1 (fun q => s.heap.size ≤ q) s s.heap ∧ va_OF "java/lang/String" "value" "[B" (.ref z.2) z.1 (fun q => s.heap.size ≤ q) s s.heap ∧ va_T .byte z.2 (sLen.getD i 0) (fun j => .int ((sByt.getD i []).getD j 0)) (fun q => s.heap.size ≤ q) s s.heap := by
    intro i
    by_cases hi : i < sNum
    · obtain ⟨a, cls, cell, kA, g1, g2, g3, g4, g5, g6, -⟩ := Cond.exactly_spec (hfl _ (fl_ex i hi))
      obtain ⟨t, ht, hT⟩ := va_Tof (f := fun j => .int ((sByt.getD i []).getD j 0)) (A := fun q => s.heap.size ≤ q) (sLen_lt i hi) (hfl _ (fl_ar i hi)) (va_eqt (hfl _ (fl_le i hi))) (fun j hj => va_eqt (hfl _ (fl_el i hi j hj))) hA
      exact ⟨(a, t), fun _ => ⟨g1, ⟨cell, g3, g5, by rw [g6]; exact g2, hA a (Array.getElem?_eq_some_iff.mp g3).1⟩, vk_OFof g1 (va_eqt (hfl _ (fl_co i hi))) hA, vk_OFof g1 ht hA, hT⟩⟩
    · exact ⟨(0, 0), fun h => absurd h hi⟩
  obtain ⟨az, haz⟩ := Classical.axiomOfChoice hK0
  have hN : sNum ≤ SCR := by decide
  have hSa : ∀ i, i < sNum → (fun j => if j = SCR then b else (az j).1) i = (az i).1 := fun i hi => if_neg (by omega)
  refine ⟨fun j => if j = SCR then b else (az j).1, fun t => (s.vm.findClass ("[" ++ (tyA t).toString)).getD 0, (fun c => (dz c).1, fun c => (dz c).2), if_pos rfl, ⟨fun c q h => hdz c q h, fun k q h => by simp at h⟩, fun w hw => ?_, fun C hC => ?_, fun t c' h => ?_, ⟨?_, ?_⟩, ⟨rfl, ⟨fun j => (az j).2, ?_, ?_, ?_⟩, fun q hq => ?_⟩, Nat.le_refl _⟩
  · have h1 := hgt w (List.mem_filter.mp hw).1
    have h2 := (List.mem_filter.mp hw).2
    cases w <;> first | exact va_Nw.of rfl h1 | exact absurd h2 (by simp)
  · exact va_AO.of (hts _ (of_decide_eq_true (List.all_eq_true.mp ao_all C hC)))
  · show c' = (s.vm.findClass ("[" ++ (tyA t).toString)).getD 0
    rw [h]; rfl
  · show va_X (if SCR = SCR then b else _) L xs s s.heap
    rw [if_pos rfl]; exact hX
  · show (if SCR = SCR then b else _) < s.heap.size
    rw [if_pos rfl]; exact hbl
  · intro i hi
    rw [hSa i hi]
    exact (haz i hi).2
  · exact va_Zof (hts _ ls_cs) (hts _ li_st) (va_eqi (hfl _ fl_cs)) hA
  · exact va_Zqof (hts _ ls_si) (hts _ li_pr) (hfl _ fl_si) hA
  · have h1 := List.all_eq_true.mp st_all q hq
    simp only [Bool.and_eq_true, Bool.or_eq_true, decide_eq_true_eq] at h1
    obtain ⟨⟨k1, k2⟩, k3⟩ := h1
    rw [hSa _ k2]
    refine vk_R.of (hts _ k1) ?_
    rcases k3 with k3 | k3
    · rw [← k3]; exact (haz _ k2).1
    · obtain ⟨y, y1, y2⟩ := Cond.eq_one (hfl _ k3)
      rw [y2, ← y1]
      exact (haz _ k2).1
