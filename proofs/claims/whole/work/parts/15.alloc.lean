section S15
variable {p : Program} {l : Launch} {e : Env} {R : Room} {s : State} {m : MethodId} {args : Array Value} {below : List Frame} {meth : Method} {c : Code} {H : Heap} {locs : List Loc} {cells slots : Nat} {Q : State → Prop}
variable {B n0 : Nat} {X : Cst} {sa : Nat → Nat} {cA : Nat → ClassId} {D : va_G} {own : String} {ini : Bool} {ml : Nat} {rt : Option FieldType} {cc : ByteArray} {pc : Nat} {L : Lo} {S : List Value} {h : AH} {ls : Array Slot} {lk : Lk} {hp : List Nat} {K : Cont}
theorem hs_aN {t : Nat × Nat} {z : Nat} : hs (aN h t z) (hn h) = t := va_up_self _ _ _
theorem hI_aN {t : Nat × Nat} {z : Nat} : hI (aN h t z) (hn h) = fun _ => 0 := va_up_self _ _ _
theorem hL_aN {t : Nat × Nat} {z : Nat} : hL (aN h t z) (hn h) = fun _ => 0 := va_up_self _ _ _
theorem hR_aN {t : Nat × Nat} {z : Nat} : hR (aN h t z) (hn h) = fun _ => none := va_up_self _ _ _
/-- behind a new cell -/
theorem Go.mk (kk : Go p l e R s m args below meth c Q B n0 sa cA D ml slots h K) (hs0 : s.heap.size = B + n0) (hc : hn h = n0 + cells) (hW : WR B cA D s H h) (hlo : hasL B sa ls ml L) {t : Nat × Nat} {z q pc' : Nat} {en : va_E} {H1 : Heap} (hen : ent B cA (aN h t z) (hn h) = en) (hA : 1 ≤ t.1 → AT cA s t.1)
    (hP : va_P D CL (RL B cA h ++ [(q, en)]) H1) (hD : va_D (fun q => B ≤ q) (RL B cA h ++ [(q, en)])) (hS : va_S (fun q => B ≤ q) s.heap H1 locs) {r : List Value} (w : K pc' L (.ref (hn h) :: r) (aN h t z)) :
    W p l e R s m args below meth c H1 locs (cells + 1) (slots + z) Q (F0 m pc' ls (.ref q :: r.map (cv B sa))) := by
  refine W.size fun hsz => ?_
  have hq : q = B + hn h := RL_fresh hD hP (by omega)
  subst hq
  exact kk _ _ (.ref (hn h) :: r) (aN h t z) H1 locs (cells + 1) (slots + z) ls w (by show hn h + 1 = _; omega) (by show _ = slots + (hz h + z - hz h); omega) (hW.push hen hP hA) hS hlo
theorem step_new (F : Fx p R s m args meth c B n0 X sa cA D own ini ml cc) (hc : hn h = n0 + cells) (hW : WR B cA D s H h) (hS : va_S (fun q => B ≤ q) s.heap H locs) (hlo : hasL B sa ls ml L) {i : Instr}
    (hk : rok own ini ml rt cc pc i lk hp = true) (w : wpI X i lk pc L S h K) (kk : Go p l e R s m args below meth c Q B n0 sa cA D ml slots h K)
    (hrm : ∀ pc' L' S' h', K pc' L' S' h' → hn h' ≤ n0 + R.cells ∧ slots + (hz h' - hz h) ≤ R.slots)
    (hi : match i with
      | .new _ | .newarray _ | .anewarray _ => True
      | _ => False) :
    W p l e R s m args below meth c H locs cells slots Q (F0 m pc ls (S.map (cv B sa))) := by
  obtain ⟨hx, hb, hml, hown, hts, hin, hRm, hE, hs0⟩ := F
  have hd := rk hk
  have hA : ∀ q, s.heap.size ≤ q → (fun q => B ≤ q) q := fun q hq => by show B ≤ q; omega
  have hroom := fun {pc' : Nat} {L' : Lo} {S' : List Value} {t : Nat × Nat} {z : Nat} (w : K pc' L' S' (aN h t z)) => show cells + 1 ≤ R.cells ∧ slots + z ≤ R.slots by
    have := hrm _ _ _ _ w
    have e1 : hn (aN h t z) = hn h + 1 := rfl
    have e2 : hz (aN h t z) = hz h + z := rfl
    omega
  cases i <;> try exact hi.elim
  case new k =>
    obtain ⟨-, hk⟩ := Bool.and_eq_true_iff.mp hk
    simp only [wpI] at w
    simp only at hk
    split at hk
    · simp only [Bool.and_eq_true, decide_eq_true_eq] at hk
      obtain ⟨⟨k1, k2⟩, ⟨k3, k4⟩, k5⟩ := hk
      obtain ⟨T, N, hcl⟩ := CL_get k1
      have hN : N = gN lk.1 := CL_N hcl
      rw [k2, ← hN] at w k4
      have hr := hroom w
      refine va_new (C := clN lk.1) (T := T) (N := N) (ci := lk.1) (index := k) (fs := (List.range (gN lk.1)).map fun i => fv B (aN h (0, lk.1) N) (hn h) (gY lk.1 i) i) hx hb hts (CL_lay hcl) (gY lk.1) (CL_ty hcl) hown (hts _ (wat_in k3)) (hts _ (wat_in k4)) (hts _ (wat_in k5)) hE.1 hW.1 RL_D hS hA hcl (fun j hj => ?_) hr.1 hr.2 hd fun q H1 hP1 hD1 hS1 => ?_
      · rw [map_V (by omega)]
        have h9 := CL_tc hcl j hj
        unfold fv
        rw [hI_aN, hL_aN, hR_aN]
        generalize gY lk.1 j = ty at h9
        cases ty <;> first | rfl | (exfalso; exact h9 rfl)
      · exact kk.mk hs0 hc hW hlo (ent_obj hs_aN) (fun h => absurd h (by simp)) hP1 hD1 hS1 w
    · simp at hk
  case newarray t =>
    obtain ⟨-, hk⟩ := Bool.and_eq_true_iff.mp hk
    obtain ⟨x, r, rfl, w0, w1, w⟩ := i1_e w
    simp only at hk
    split at hk
    · simp only [Bool.and_eq_true, decide_eq_true_eq] at hk
      obtain ⟨⟨⟨k1, k1b⟩, k2⟩, k3⟩ := hk
      have hr := hroom w
      have hbytes : ∀ ty, x.toNatClampNeg * componentBytes ty ≤ 536870912 := fun ty => by
        have : componentBytes ty ≤ 8 := by cases ty <;> simp [componentBytes]
        calc x.toNatClampNeg * componentBytes ty ≤ 1000000 * 8 := Nat.mul_le_mul w1 this
          _ ≤ _ := by decide
      have fin : ∀ (a0 : vp_A) (en : ClassId → va_E), (∀ cA', vp_cell cA' a0 = arrV cA' x.toNatClampNeg (fun _ => defaultValue (tyA lk.1))) → ent B cA (aN h (lk.1, x.toNatClampNeg) x.toNatClampNeg) (hn h) = .inl (cA lk.1, a0) → (∀ cA', va_RA s cA' (tyA lk.1) → s.vm.findClass ("[" ++ (tyA lk.1).toString) = some cA') → W p l e R s m args below meth c H locs cells slots Q (F0 m pc ls (List.map (cv B sa) (.int x :: r))) := by
        intro a0 en ha0 hen hRA
        refine va_newa (a0 := a0) (ty := tyA lk.1) hx hb (hts _ (wat_in k3)) k2 hE.1 hW.1 RL_D hS hA ha0 w0 rfl (hbytes _) hr.1 hr.2 hd fun q cA' H1 hK1 hP1 hD1 hS1 => ?_
        have hK0 := hK1.2 0 (cA', tyA lk.1) rfl
        have hcA : cA' = cA lk.1 := hE.2.2.2.1 lk.1 cA' (hRA _ hK0.2)
        subst hcA
        exact kk.mk hs0 hc hW hlo hen (fun _ => hK0) hP1 hD1 hS1 w
      have hcase : lk.1 = 1 ∨ lk.1 = 2 ∨ lk.1 = 3 ∨ lk.1 = 4 := by omega
      rcases hcase with q | q | q | q
      · refine fin (x.toNatClampNeg, .inl fun _ => 0) (fun c => .inl (c, x.toNatClampNeg, .inl fun _ => 0)) (fun cA' => by rw [q]; rfl) ?_ (fun cA' hra => by rw [q] at hra ⊢; exact hra)
        rw [ent_i (by rw [hs_aN]; exact q), hs_aN, hI_aN, q]
      · refine fin (x.toNatClampNeg, .inr (.inl fun _ => 0)) (fun c => .inl (c, x.toNatClampNeg, .inr (.inl fun _ => 0))) (fun cA' => by rw [q]; rfl) ?_ (fun cA' hra => by rw [q] at hra ⊢; exact hra)
        rw [ent_l (by rw [hs_aN]; exact q), hs_aN, hL_aN, q]
      · refine fin (x.toNatClampNeg, .inl fun _ => 0) (fun c => .inl (c, x.toNatClampNeg, .inl fun _ => 0)) (fun cA' => by rw [q]; rfl) ?_ (fun cA' hra => by rw [q] at hra ⊢; exact hra)
        rw [ent_b (by rw [hs_aN]; exact q), hs_aN, hI_aN, q]
      · refine fin (x.toNatClampNeg, .inl fun _ => 0) (fun c => .inl (c, x.toNatClampNeg, .inl fun _ => 0)) (fun cA' => by rw [q]; rfl) ?_ (fun cA' hra => by rw [q] at hra ⊢; exact hra)
        rw [ent_z (by rw [hs_aN]; exact q), hs_aN, hI_aN, q]
    · simp at hk
  case anewarray k =>
    obtain ⟨-, hk⟩ := Bool.and_eq_true_iff.mp hk
    obtain ⟨x, r, rfl, w0, w1, w⟩ := i1_e w
    simp only at hk
    split at hk
    · simp only [Bool.and_eq_true, decide_eq_true_eq] at hk
      obtain ⟨⟨k1, k2⟩, k3⟩ := hk
      have hr := hroom w
      refine va_newq (C := clN lk.1) hx hb hown (hts _ (wat_in k3)) (hE.2.2.1 _ k2) hE.1 hW.1 RL_D hS hA w0 rfl (by omega) hr.1 hr.2 hd fun q cA' H1 hK1 hP1 hD1 hS1 => ?_
      have hK0 : ArrOfT s cA' (tyA (5 + lk.1)) ∧ va_RA s cA' (tyA (5 + lk.1)) := by
        have := hK1.2 0 (cA', .object (clN lk.1)) rfl
        rw [Nat.add_comm]
        exact this
      have hcA : cA' = cA (5 + lk.1) := by
        refine hE.2.2.2.1 (5 + lk.1) cA' ?_
        have h2 := hK0.2
        rw [Nat.add_comm] at h2 ⊢
        obtain ⟨kA, comp, -, -, -, h4⟩ := h2
        exact h4
      subst hcA
      refine kk.mk (t := (5 + lk.1, x.toNatClampNeg)) hs0 hc hW hlo ?_ (fun _ => hK0) hP1 hD1 hS1 w
      rw [ent_q (n := lk.1) (by rw [hs_aN]; exact Nat.add_comm _ _), hs_aN, hR_aN, Nat.add_comm 5]
      rfl
    · simp at hk
theorem swt_W {x : Int32} {d : Nat} {K : Nat → Prop} {G : Prop} : ∀ (cs : List (Nat × Nat)), swt x d K cs → (∀ c ∈ cs, x = nI c.1 → K c.2 → G) → ((∀ c ∈ cs, ¬ x = nI c.1) → K d → G) → G
  | [], w, _, h2 => h2 (fun _ h => by cases h) w
  | c :: r, w, h1, h2 => by
    by_cases q : x = nI c.1
    · exact h1 c List.mem_cons_self q (w.1 q)
    · refine swt_W r (w.2 q) (fun c' hc' => h1 c' (List.mem_cons_of_mem _ hc')) fun h => h2 fun c' hc' => ?_
      rcases List.mem_cons.mp hc' with rfl | hc'
      · exact q
      · exact h c' hc'
theorem room_cat {r : List Value} (h8 : (r.map Value.category).sum ≤ 8) : ((r.map (cv B sa)).map fun v => v.category).sum ≤ 8 := by
  have : ((r.map (cv B sa)).map fun v => v.category) = r.map Value.category := by rw [List.map_map]; exact List.map_congr_left (fun v _ => cv_cat B sa v)
  rw [this]
  exact h8
set_option maxRecDepth 20000 in
theorem step_misc (hcl : cells ≤ R.cells ∧ slots ≤ R.slots) (F : Fx p R s m args meth c B n0 X sa cA D own ini ml cc) (hc : hn h = n0 + cells) (hW : WR B cA D s H h) (hS : va_S (fun q => B ≤ q) s.heap H locs) (hlo : hasL B sa ls ml L) {i : Instr}
    (hk : rok own ini ml rt cc pc i lk hp = true) (w : wpI X i lk pc L S h K) (kk : Go p l e R s m args below meth c Q B n0 sa cA D ml slots h K)
    (hi : match i with
      | .tableswitch _ _ _ _ => True
      | .invokestatic _ => lk.2.2.1 = []
      | .invokespecial _ => lk.2.2.1 = []
      | _ => False) :
    W p l e R s m args below meth c H locs cells slots Q (F0 m pc ls (S.map (cv B sa))) := by
  obtain ⟨hx, hb, hml, hown, hts, hin, hRm, hE, hs0⟩ := F
  have hd := rk hk
  have go := fun {pc' : Nat} {L' : Lo} {S' : List Value} {ls' : Array Slot} => Go.same (pc' := pc') (L' := L') (S' := S') (ls' := ls') kk hc hW hS
  cases i <;> try exact hi.elim
  case tableswitch d lo hi' offs =>
    obtain ⟨-, hk⟩ := Bool.and_eq_true_iff.mp hk
    obtain ⟨x, r, rfl, w⟩ := i1_e w
    simp only [Bool.and_eq_true, decide_eq_true_eq] at hk
    obtain ⟨⟨⟨⟨k1, k2⟩, k3⟩, k4⟩, k5⟩ := hk
    have hrow : ∀ j, j < lk.2.2.1.length → ∃ cq o, lk.2.2.1[j]? = some cq ∧ offs[j]? = some o ∧ cq.1 = lo.toNat + j ∧ (pc : Int) + o = (cq.2 : Int) := by
      intro j hj
      have := List.all_eq_true.mp k5 j (List.mem_range.mpr hj)
      split at this
      · rename_i cq o e1 e2
        simp only [Bool.and_eq_true, decide_eq_true_eq] at this
        exact ⟨cq, o, e1, e2, this.1, this.2⟩
      · cases this
    refine swt_W _ w (fun cq hcq q w1 => ?_) (fun hn' w1 => ?_)
    · obtain ⟨j, hj⟩ := List.getElem?_of_mem hcq
      have hjl : j < lk.2.2.1.length := (List.getElem?_eq_some_iff.mp hj).1
      obtain ⟨cq', o, e1, e2, e3, e4⟩ := hrow j hjl
      have hcc : cq' = cq := Option.some.inj (e1.symm.trans hj)
      subst hcc
      have hlt : cq'.1 < 2 ^ 31 := by omega
      have hxi : x.toInt = (cq'.1 : Int) := by rw [q, nI_toInt hlt]
      refine lv_tableIn (tgt := cq'.2) (off := o) hx hb hd (by omega) (by omega) ?_ e4 (go w1 hlo)
      rw [show (x.toInt - lo).toNat = j by omega]
      exact e2
    · refine lv_tableOut hx hb hd ?_ k3 (go w1 hlo)
      rcases Classical.em (x.toInt < lo ∨ hi' < x.toInt) with q | q
      · exact q
      · exfalso
        obtain ⟨cq, o, e1, e2, e3, e4⟩ := hrow (x.toInt - lo).toNat (by omega)
        refine hn' cq (List.mem_of_getElem? e1) ?_
        apply Int32.toInt_inj.mp
        rw [nI_toInt (by omega)]
        omega
  case invokestatic k =>
    obtain ⟨-, hk⟩ := Bool.and_eq_true_iff.mp hk
    simp only [wpI] at w
    split at w
    · rename_i n dp b sp a r e7 e8
      obtain ⟨⟨wa, wb⟩, ⟨w1, w2, w3⟩, ⟨w4, w5⟩, w⟩ := w
      obtain ⟨hst, w⟩ := ct_e w
      rw [hi] at hk
      rcases hp with _ | ⟨p1, _ | ⟨p2, _ | ⟨p3, _ | ⟨p4, _ | ⟨p5, r5⟩⟩⟩⟩⟩
      · cases hk
      · simp only [Bool.and_eq_true, decide_eq_true_eq] at hk
        have hla := hW.lt1 (k := a) (by omega)
        have hlb := hW.lt1 (k := b) (by omega)
        have hK2 : va_K D CL [(cA 1, tyA 1)] s := K1 hE hW wa (by omega)
        have hcat : (r.map fun v => (cv B sa v).category).sum ≤ 20 := by
          have : (r.map fun v => (cv B sa v).category) = r.map Value.category := List.map_congr_left (fun v _ => cv_cat B sa v)
          rw [this]
          omega
        refine va_copyi (ls := ls) hx hb (by rw [hml]; exact hlo.1.symm) hown (hts _ (wat_in hk.2)) (hts _ cp_nat) (hts _ cp_stat) (hts _ cp_ini) hK2 hW.1 RL_D hS a b 0 0 (by rw [RL_get hla, ent_i wa]) (by rw [RL_get hlb, ent_i wb]) rfl rfl rfl w1 w2 w3 w4 w5 (fun i _ => rfl) (by omega) ?_ hd fun H1 locs1 hP1 hD1 hS1 => ?_
        · have e9 : nativeFrameWords "java/lang/System" "arraycopy" 5 ≤ 60 := by decide
          have e8 : ((List.map (cv B sa) r).map fun v => v.category).sum ≤ 20 := by rw [List.map_map]; exact hcat
          omega
        · exact kk.put hc (h' := wC h a sp.toNatClampNeg b dp.toNatClampNeg n.toNatClampNeg) rfl (hW.put rfl (by rw [ent_i (h := wC h a sp.toNatClampNeg b dp.toNatClampNeg n.toNatClampNeg) wb, wC_eq]; rfl) (fun j hj => ent_wC_ne hj) hP1) hS1 w hlo
      · cases hk
      · cases hk
      · exfalso
        simp only [e7, Bool.or_eq_true, Bool.and_eq_true, decide_eq_true_eq] at hk
        omega
      · cases hk
    · rename_i y x r e10
      obtain ⟨hst, w⟩ := ct_e w
      rw [hi] at hk
      rcases hp with _ | ⟨p1, _ | ⟨p2, _ | ⟨p3, _ | ⟨p4, _ | ⟨p5, r5⟩⟩⟩⟩⟩
      · cases hk
      · exfalso
        simp only [e10, Bool.and_eq_true, decide_eq_true_eq] at hk
        omega
      · cases hk
      · cases hk
      · simp only [e10, Bool.or_eq_true, Bool.and_eq_true, decide_eq_true_eq] at hk
        rcases hk with ⟨⟨⟨⟨-, k1⟩, k2⟩, k3⟩, k4⟩ | ⟨⟨⟨⟨k0, -⟩, -⟩, -⟩, -⟩
        · exact va_mmax (ls := ls) hx hb (by rw [hml]; exact hlo.1.symm) hown (hts _ (wat_in k1)) (hts _ (wat_in k3)) (hts _ (wat_in k2)) (hts _ (wat_in k4)) (by omega) (by have := room_cat (B := B) (sa := sa) hst; omega) hcl.1 hcl.2 hd (go w hlo)
        · omega
      · cases hk
    · rename_i y x r e11
      obtain ⟨hst, w⟩ := ct_e w
      rw [hi] at hk
      rcases hp with _ | ⟨p1, _ | ⟨p2, _ | ⟨p3, _ | ⟨p4, _ | ⟨p5, r5⟩⟩⟩⟩⟩
      · cases hk
      · exfalso
        simp only [e11, Bool.and_eq_true, decide_eq_true_eq] at hk
        omega
      · cases hk
      · cases hk
      · simp only [e11, Bool.or_eq_true, Bool.and_eq_true, decide_eq_true_eq] at hk
        rcases hk with ⟨⟨⟨⟨k0, -⟩, -⟩, -⟩, -⟩ | ⟨⟨⟨⟨-, k1⟩, k2⟩, k3⟩, k4⟩
        · omega
        · exact va_mmin (ls := ls) hx hb (by rw [hml]; exact hlo.1.symm) hown (hts _ (wat_in k1)) (hts _ (wat_in k3)) (hts _ (wat_in k2)) (hts _ (wat_in k4)) (by omega) (by have := room_cat (B := B) (sa := sa) hst; omega) hcl.1 hcl.2 hd (go w hlo)
      · cases hk
    · exact w.elim
  case invokespecial k =>
    obtain ⟨-, hk⟩ := Bool.and_eq_true_iff.mp hk
    obtain ⟨o, r, rfl, w⟩ := r1_e w
    obtain ⟨hst, w⟩ := ct_e w
    rw [hi] at hk
    simp only at hk
    split at hk
    · simp only [Bool.and_eq_true, decide_eq_true_eq] at hk
      have hcat : ((r.map (cv B sa)).map fun v => v.category).sum ≤ 20 := by
        have : ((r.map (cv B sa)).map fun v => v.category) = r.map Value.category := by rw [List.map_map]; exact List.map_congr_left (fun v _ => cv_cat B sa v)
        rw [this]
        omega
      exact W.objInit (g := F0 m pc ls (.ref (B + o) :: r.map (cv B sa))) hx hb hown (hts _ (wat_in hk.2)) (hts _ ob_inst) (hts _ ob_code) rfl (by rw [hml]; exact hlo.1) rfl hd (by omega) (by show 2 * 0 + _ + 12 ≤ _; omega) (go w hlo)
    · exact absurd hk (by simp_all)
    · simp at hk
end S15
