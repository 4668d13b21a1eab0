section S14
variable {p : Program} {l : Launch} {e : Env} {R : Room} {s : State} {m : MethodId} {args : Array Value} {below : List Frame} {meth : Method} {c : Code} {H : Heap} {locs : List Loc} {cells slots : Nat} {Q : State → Prop}
variable {B n0 : Nat} {X : Cst} {sa : Nat → Nat} {cA : Nat → ClassId} {D : va_G} {own : String} {ini : Bool} {ml : Nat} {rt : Option FieldType} {cc : ByteArray} {pc : Nat} {L : Lo} {S : List Value} {h : AH} {ls : Array Slot} {lk : Lk} {hp : List Nat} {K : Cont}
theorem map_set {N k : Nat} {f g : Nat → Value} {v : Value} (h1 : ∀ i, i ≠ k → g i = f i) (h2 : g k = v) : ((List.range N).map f).set k v = (List.range N).map g := by
  apply List.ext_getElem?
  intro j
  rw [List.getElem?_set]
  by_cases z : k = j
  · subst z
    by_cases hk : k < N
    · rw [if_pos rfl, if_pos (by simpa using hk)]
      simp [hk, h2]
    · rw [if_pos rfl, if_neg (by simpa using hk)]
      symm
      simp
      omega
  · rw [if_neg z]
    by_cases hj : j < N
    · simp [hj, h1 j (fun q => z q.symm)]
    · simp [hj]
theorem map_get {N k : Nat} {f : Nat → Value} (hk : k < N) : ((List.range N).map f)[k]? = some (f k) := by simp [hk]
theorem map_V {N k : Nat} {f : Nat → Value} (hk : k < N) : vp_V ((List.range N).map f) k = f k := by
  unfold vp_V
  rw [List.getD_eq_getElem?_getD, map_get hk]
  rfl
theorem fv_wI_ne {o k i : Nat} {x : Int32} {ty : FieldType} (hi : i ≠ k) : fv B (wI h o k x) o ty i = fv B h o ty i := by
  have e : hI (wI h o k x) o i = hI h o i := by rw [wI_eq, va_up_ne _ _ hi]
  unfold fv
  rw [e]
  rfl
theorem fv_wL_ne {o k i : Nat} {x : Int64} {ty : FieldType} (hi : i ≠ k) : fv B (wL h o k x) o ty i = fv B h o ty i := by
  have e : hL (wL h o k x) o i = hL h o i := by rw [wL_eq, va_up_ne _ _ hi]
  unfold fv
  rw [e]
  rfl
theorem fv_wR_ne {o k i : Nat} {x : Option Nat} {ty : FieldType} (hi : i ≠ k) : fv B (wR h o k x) o ty i = fv B h o ty i := by
  have e : hR (wR h o k x) o i = hR h o i := by rw [wR_eq, va_up_ne _ _ hi]
  unfold fv
  rw [e]
  rfl
theorem fv_i {o k : Nat} {ty : FieldType} (ht : tcode ty = 0 ∨ tcode ty = 3) : fv B h o ty k = .int (hI h o k) := by
  cases ty <;> first | rfl | (exfalso; rcases ht with h | h <;> simp [tcode] at h)
theorem fv_l {o k : Nat} {ty : FieldType} (ht : tcode ty = 1) : fv B h o ty k = .long (hL h o k) := by
  cases ty <;> first | rfl | (exfalso; simp [tcode] at ht)
theorem fv_r {o k : Nat} {ty : FieldType} (ht : tcode ty = 2) : fv B h o ty k = va_rf ((hR h o k).map (B + ·)) := by
  cases ty <;> first | rfl | (exfalso; simp [tcode] at ht)
/-- what a field's row gives -/
theorem fok_e {idx k ty ci : Nat} (hf : fok own idx k ty hp ci = true) (hts : ∀ w ∈ gws, w.before args s = true) : ∃ (q : vw_C) (ref : String), CL[ci]? = some q ∧ k < q.2.2 ∧ q.2.2 = gN ci ∧ tcode (gY ci k) = ty ∧ (Cond.fieldLink own idx ref (q.2.1 k).2.1 (q.2.1 k).2.2.1).before args s = true ∧ ∀ x, s.fieldFound? (q.2.1 k).1 (q.2.1 k).2.1 (q.2.1 k).2.2.1 = some x → s.fieldFound? ref (q.2.1 k).2.1 (q.2.1 k).2.2.1 = some x := by
  unfold fok at hf
  split at hf
  · rename_i q hq
    simp only [Bool.and_eq_true, decide_eq_true_eq] at hf
    exact ⟨_, _, hq, hf.1.1.1, hf.1.1.2, hf.1.2, hts _ (wat_in hf.2), fun x hx => hx⟩
  · rename_i q hq
    split at hf
    · rename_i ref ow nm ds hr
      simp only [Bool.and_eq_true, decide_eq_true_eq] at hf
      obtain ⟨⟨⟨⟨⟨⟨⟨h1, h2⟩, h3⟩, h4⟩, h5⟩, rfl⟩, rfl⟩, rfl⟩ := hf
      exact ⟨_, _, hq, h1, h2, h3, hts _ (wat_in h4), fun x hx => u_same (hts _ (wat_in h5)) x hx⟩
    · cases hf
  · cases hf
theorem okc_e {o : Nat} : ∀ {cs : List (Nat × Nat)}, okc h o cs → ∃ c ∈ cs, hs h o = (0, c.1)
  | [], w => w.elim
  | [c], w => ⟨c, List.mem_singleton.mpr rfl, w⟩
  | c :: d :: r, w => by
    rcases w with w | w
    · exact ⟨c, List.mem_cons_self, w⟩
    · obtain ⟨x, h1, h2⟩ := okc_e (cs := d :: r) w
      exact ⟨x, List.mem_cons_of_mem _ h1, h2⟩
theorem CL_lt {ci : Nat} {q : vw_C} (h : CL[ci]? = some q) : ci < 100 := by
  have := (List.getElem?_eq_some_iff.mp h).1
  have e : CL.length ≤ 100 := by decide
  omega
theorem step_get (F : Fx p R s m args meth c B n0 X sa cA D own ini ml cc) (hc : hn h = n0 + cells) (hW : WR B cA D s H h) (hS : va_S (fun q => B ≤ q) s.heap H locs) (hlo : hasL B sa ls ml L) {idx : Nat}
    (hk : rok own ini ml rt cc pc (.getfield idx) lk hp = true) (w : wpI X (.getfield idx) lk pc L S h K) (kk : Go p l e R s m args below meth c Q B n0 sa cA D ml slots h K) :
    W p l e R s m args below meth c H locs cells slots Q (F0 m pc ls (S.map (cv B sa))) := by
  obtain ⟨hx, hb, hml, hown, hts, hin, hRm, hE, hs0⟩ := F
  have hd := rk hk
  obtain ⟨o, r, rfl, w0, w⟩ := r1_e w
  obtain ⟨-, hk⟩ := Bool.and_eq_true_iff.mp hk
  obtain ⟨ci, hci, ho⟩ := okc_e w0
  obtain ⟨q, ref, q1, q2, q3, q4, q5, q6⟩ := fok_e (List.all_eq_true.mp hk ci hci) hts
  have hl : o < hn h := hW.ltc ho (CL_lt q1)
  have he : (RL B cA h)[o]? = some (B + o, .inr (ci.1, (List.range (gN ci.1)).map fun i => fv B h o (gY ci.1 i) i)) := by rw [RL_get hl, ent_obj ho]
  have run := fun (v : Value) (hv : fv B h o (gY ci.1 lk.1) lk.1 = v) (k1 : W p l e R s m args below meth c H locs cells slots Q (F0 m (pc + 3) ls (v :: r.map (cv B sa)))) => va_get (C := q.1) (T := q.2.1) (N := q.2.2) (ref := ref) (index := idx) hx hb hts (CL_lay q1) hown hE.1 hW.1 o he (by rw [q1]) lk.1 q2 q5 q6 (v := v) (by rw [← q3, map_get q2, hv]) hd k1
  have go := fun {pc' : Nat} {L' : Lo} {S' : List Value} {ls' : Array Slot} => Go.same (pc' := pc') (L' := L') (S' := S') (ls' := ls') kk hc hW hS
  split at w
  · rename_i e; exact run _ (fv_i (Or.inl (q4.trans e))) (go w hlo)
  · rename_i e; exact run _ (fv_l (q4.trans e)) (go w hlo)
  · rename_i e
    obtain ⟨z, w1, w⟩ := w
    exact run _ (by rw [fv_r (q4.trans e), w1]; rfl) (go (S' := .ref z :: r) w hlo)
  · rename_i e0 e1 e2
    refine run _ (fv_i ?_) (go w hlo)
    have h9 := CL_tc q1 lk.1 q2
    generalize hty : gY ci.1 lk.1 = ty at q4 h9 ⊢
    cases ty <;> simp_all [tcode]
theorem step_put (F : Fx p R s m args meth c B n0 X sa cA D own ini ml cc) (hc : hn h = n0 + cells) (hW : WR B cA D s H h) (hS : va_S (fun q => B ≤ q) s.heap H locs) (hlo : hasL B sa ls ml L) {idx : Nat}
    (hk : rok own ini ml rt cc pc (.putfield idx) lk hp = true) (w : wpI X (.putfield idx) lk pc L S h K) (kk : Go p l e R s m args below meth c Q B n0 sa cA D ml slots h K) :
    W p l e R s m args below meth c H locs cells slots Q (F0 m pc ls (S.map (cv B sa))) := by
  obtain ⟨hx, hb, hml, hown, hts, hin, hRm, hE, hs0⟩ := F
  have hd := rk hk
  obtain ⟨-, hk⟩ := Bool.and_eq_true_iff.mp hk
  have run := fun (o : Nat) (r : List Value) (v : Value) (h' : AH) (hh : h'.1 = h.1) (w0 : okc h o lk.2.2.1) (hv : ∀ ci, tcode (gY ci lk.1) = lk.2.1 → (narrow (gY ci lk.1) (cv B sa v) = cv B sa v ∧ fits (gY ci lk.1) (cv B sa v) = true) ∧ fv B h' o (gY ci lk.1) lk.1 = cv B sa v) (hne : ∀ ty i, i ≠ lk.1 → fv B h' o ty i = fv B h o ty i) (hoth : ∀ j, j ≠ o → ent B cA h' j = ent B cA h j) (w : K (pc + 3) L r h') =>
    show W p l e R s m args below meth c H locs cells slots Q (F0 m pc ls (cv B sa v :: .ref (B + o) :: r.map (cv B sa))) by
      obtain ⟨ci, hci, ho⟩ := okc_e w0
      have hk1 := List.all_eq_true.mp hk ci hci
      obtain ⟨hk1, hk2⟩ := Bool.and_eq_true_iff.mp hk1
      obtain ⟨q, ref, q1, q2, q3, q4, q5, q6⟩ := fok_e hk1 hts
      have hl : o < hn h := hW.ltc ho (CL_lt q1)
      have he : (RL B cA h)[o]? = some (B + o, .inr (ci.1, (List.range (gN ci.1)).map fun i => fv B h o (gY ci.1 i) i)) := by rw [RL_get hl, ent_obj ho]
      obtain ⟨⟨n1, n2⟩, n3⟩ := hv ci.1 q4
      have hshape : hs h' o = (0, ci.1) := by rw [show hs h' = hs h from congrArg (·.2.2) hh]; exact ho
      have fin : ∀ (H1 : Heap) (locs1 : List Loc), va_P D CL ((RL B cA h).set o (B + o, .inr (ci.1, ((List.range (gN ci.1)).map fun i => fv B h o (gY ci.1 i) i).set lk.1 (cv B sa v)))) H1 → va_D (fun q => B ≤ q) ((RL B cA h).set o (B + o, .inr (ci.1, ((List.range (gN ci.1)).map fun i => fv B h o (gY ci.1 i) i).set lk.1 (cv B sa v)))) → va_S (fun q => B ≤ q) s.heap H1 locs1 → W p l e R s m args below meth c H1 locs1 cells slots Q (F0 m (pc + 3) ls (r.map (cv B sa))) := by
        intro H1 locs1 hP1 hD1 hS1
        refine kk.put hc hh (hW.put hh ?_ hoth hP1) hS1 w hlo
        rw [ent_obj hshape, map_set (g := fun i => fv B h' o (gY ci.1 i) i) (fun i hi => hne _ i hi) n3]
      rw [q1] at hk2
      simp only [Bool.or_eq_true, Bool.not_eq_true', Bool.and_eq_true, decide_eq_true_eq] at hk2
      rcases hk2 with hf | ⟨hf1, hf2⟩
      · exact va_put (C := q.1) (T := q.2.1) (N := q.2.2) (ref := ref) (index := idx) hx hb hts (CL_lay q1) (gY ci.1) (CL_ty q1) (CL_nm q1) hown hE.1 hW.1 RL_D hS o he (by rw [q1]) lk.1 q2 q5 q6 hf (CL_ty q1 _ q2) n1 n2 (by simp; omega) hd fin
      · cases hfb : (q.2.1 lk.1).2.2.2 with
        | false => exact va_put (C := q.1) (T := q.2.1) (N := q.2.2) (ref := ref) (index := idx) hx hb hts (CL_lay q1) (gY ci.1) (CL_ty q1) (CL_nm q1) hown hE.1 hW.1 RL_D hS o he (by rw [q1]) lk.1 q2 q5 q6 hfb (CL_ty q1 _ q2) n1 n2 (by simp; omega) hd fin
        | true => exact va_putF (C := q.1) (T := q.2.1) (N := q.2.2) (ref := ref) (index := idx) hx hb hts (CL_lay q1) (gY ci.1) (CL_ty q1) (CL_nm q1) hown hE.1 hW.1 RL_D hS o he (by rw [q1]) lk.1 q2 q5 q6 hfb (hin hf1) hf2 (CL_ty q1 _ q2) n1 n2 (by simp; omega) hd fin
  simp only [wpI] at w
  split at w
  · rename_i e
    refine run _ _ (.int _) (wI h _ lk.1 _) rfl w.1 (fun ci ht => ?_) (fun ty i hi => fv_wI_ne hi) (fun j hj => ent_wI_ne hj) w.2
    have ht0 := ht.trans e
    refine ⟨?_, by rw [fv_i (Or.inl ht0), wI_eq, va_up_self]; rfl⟩
    generalize gY ci lk.1 = ty at ht0
    cases ty <;> first | exact ⟨rfl, rfl⟩ | (exfalso; simp [tcode] at ht0)
  · rename_i e
    refine run _ _ (.long _) (wL h _ lk.1 _) rfl w.1 (fun ci ht => ?_) (fun ty i hi => fv_wL_ne hi) (fun j hj => ent_wL_ne hj) w.2
    have ht0 := ht.trans e
    refine ⟨?_, by rw [fv_l ht0, wL_eq, va_up_self]; rfl⟩
    generalize gY ci lk.1 = ty at ht0
    cases ty <;> first | exact ⟨rfl, rfl⟩ | (exfalso; simp [tcode] at ht0)
  · rename_i e
    refine run _ _ (.ref _) (wR h _ lk.1 (some _)) rfl w.1 (fun ci ht => ?_) (fun ty i hi => fv_wR_ne hi) (fun j hj => ent_wR_ne hj) w.2
    have ht0 := ht.trans e
    refine ⟨?_, by rw [fv_r ht0, wR_eq, va_up_self]; rfl⟩
    generalize gY ci lk.1 = ty at ht0
    cases ty <;> first | exact ⟨rfl, rfl⟩ | (exfalso; simp [tcode] at ht0)
  · rename_i e
    refine run _ _ (.int _) (wI h _ lk.1 _) rfl w.1 (fun ci ht => ?_) (fun ty i hi => fv_wI_ne hi) (fun j hj => ent_wI_ne hj) w.2.2
    have ht0 := ht.trans e
    refine ⟨?_, by rw [fv_i (Or.inr ht0), wI_eq, va_up_self]; rfl⟩
    generalize gY ci lk.1 = ty at ht0
    rcases w.2.1 with rfl | rfl
    · cases ty <;> first | exact ⟨rfl, rfl⟩ | (exfalso; simp [tcode] at ht0)
    · cases ty <;> first | exact ⟨rfl, rfl⟩ | (exfalso; simp [tcode] at ht0)
  · exact w.elim
end S14
