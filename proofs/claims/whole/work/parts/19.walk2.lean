section S19
variable {l : Launch} {B : Nat} {X : Cst} {sa : Nat → Nat} {cA : Nat → ClassId} {D : va_G}
theorem NL_get {z : Nat} (h : z < NL) : ∃ q, gMt[z]? = some q := by
  unfold NL at h
  exact ⟨gMt[z]'(by omega), List.getElem?_eq_getElem (by omega)⟩
set_option maxHeartbeats 4000000 in
set_option maxRecDepth 20000 in
theorem walk (hRO : RowsOK) (hM : MthOK) : ∀ n, Walk l B X sa cA D n := by
  intro n
  induction n with
  | zero => intro d y pc L S h r h' q hq w; exact w.elim
  | succ n ih =>
    intro d y pc L S h r h' q hq w p e R s m args below meth c H locs cells slots n0 Q ls F hc hW hS hlo hRoom hrm hret
    have hgr := fun {d1 y1 pc1 : Nat} {L1 : Lo} {S1 : List Value} {h1 : AH} (w1 : wpn X PG n d1 y1 pc1 L1 S1 h1 (fun a b => a = r ∧ b = h')) => show hn h1 ≤ hn h' ∧ hz h1 ≤ hz h' by
      obtain ⟨r1, h2, ⟨rfl, rfl⟩, g, -⟩ := wpn_both _ _ _ _ _ _ _ _ w1
      exact g
    -- going on from a place reached
    have on := fun {pc1 : Nat} {L1 : Lo} {S1 : List Value} {h1 : AH} {H1 : Heap} {locs1 : List Loc} {cells1 slots1 : Nat} {ls1 : Array Slot} (w1 : wpn X PG n d y pc1 L1 S1 h1 (fun a b => a = r ∧ b = h')) (hg1 : hn h ≤ hn h1 ∧ hz h ≤ hz h1) (hc1 : hn h1 = n0 + cells1) (hs1 : slots1 = slots + (hz h1 - hz h)) (hW1 : WR B cA D s H1 h1) (hS1 : va_S (fun q => B ≤ q) s.heap H1 locs1) (hl1 : hasL B sa ls1 q.2.2.1 L1) =>
      show W p l e R s m args below meth c H1 locs1 cells1 slots1 Q (F0 m pc1 ls1 (S1.map (cv B sa))) from
        ih d y pc1 L1 S1 h1 r h' q hq w1 F hc1 hW1 hS1 hl1 hRoom ⟨hrm.1, by have := hgr w1; omega⟩ fun pc2 H2 locs2 cells2 slots2 ls2 st hr2 hc2 hs2 hW2 hS2 => hret pc2 H2 locs2 cells2 slots2 ls2 st hr2 hc2 (by have := hgr w1; omega) hW2 hS2
    unfold wpn at w
    cases hp : PG.1 y pc with
    | none => rw [hp] at w; exact w.elim
    | some row =>
      obtain ⟨i, lk⟩ := row
      rw [hp] at w
      obtain ⟨hints, hk, hz0⟩ := hRO y (List.getElem?_eq_some_iff.mp hq).1 q hq pc i lk hp
      have hd := rk hk
      -- a plain instruction
      have plain := fun (hno : noC i lk) (w : wpI X i lk pc L S h (fun pc' L' S' h1 => wpn X PG n d y pc' L' S' h1 (fun a b => a = r ∧ b = h'))) =>
        show W p l e R s m args below meth c H locs cells slots Q (F0 m pc ls (S.map (cv B sa))) by
          obtain ⟨pc1, L1, S1, h1, w1, g1, w2⟩ := wpI_pick w
          refine step_any (K := fun pc' L' S' h2 => wpn X PG n d y pc' L' S' h2 (fun a b => a = r ∧ b = h') ∧ hn h ≤ hn h2 ∧ hz h ≤ hz h2) F hc hW hS hlo hk (w2 _ ⟨w1, g1⟩) (fun pc2 L2 S2 h2 H2 locs2 cells2 slots2 ls2 a1 a2 a3 a4 a5 a6 => on a1.1 a1.2 a2 a3 a4 a5 a6) (fun pc2 L2 S2 h2 a => ?_) hno
          have := hgr a.1
          omega
      -- a call
      have call := fun {z : Nat} {As rest : List Value} (hz1 : z < NL) (w : clW PG (wpn X PG n) d z As rest h (fun v h1 => wpn X PG n d y (pc + 3) L (v.toList ++ rest) h1 (fun a b => a = r ∧ b = h'))) =>
        show ∃ d0 q2 r1 h1, d = d0 + 1 ∧ gMt[z]? = some q2 ∧ (rest.map Value.category).sum ≤ 8 ∧ MetA l B X sa cA D d0 q2 As h r1 h1 ∧ (hn h ≤ hn h1 ∧ hz h ≤ hz h1) ∧ wpn X PG n d y (pc + 3) L (r1.toList ++ rest) h1 (fun a b => a = r ∧ b = h') by
          obtain ⟨d0, hd0, ⟨hc1, hc2⟩, w⟩ := clW_e w
          obtain ⟨q2, hq2⟩ := NL_get hz1
          obtain ⟨r1, h1, w1, g1, w2⟩ := wpn_both _ _ _ _ _ _ _ _ w
          exact ⟨d0, q2, r1, h1, hd0, hq2, hc2, met_of hM ih hz1 hq2 hc1 (w2 n d0 _ (Nat.le_refl _) (Nat.le_refl _) ⟨rfl, rfl⟩), g1, w1⟩
      have after := fun {r1 : Option Value} {rest : List Value} {h1 : AH} (g1 : hn h ≤ hn h1 ∧ hz h ≤ hz h1) (w1 : wpn X PG n d y (pc + 3) L (r1.toList ++ rest) h1 (fun a b => a = r ∧ b = h')) =>
        show Go p l e R s m args below meth c Q B n0 sa cA D q.2.2.1 slots h (fun pc' L' S' h2 => pc' = pc + 3 ∧ L' = L ∧ S' = r1.toList ++ rest ∧ h2 = h1) from
          fun pc2 L2 S2 h2 H2 locs2 cells2 slots2 ls2 ⟨e1, e2, e3, e4⟩ a2 a3 a4 a5 a6 => by subst e1 e2 e3 e4; exact on w1 g1 a2 a3 a4 a5 a6
      cases i with
      | ireturn =>
        simp only at w
        split at w
        · obtain ⟨wl, rfl, rfl⟩ := w
          refine hret pc H locs cells slots ls _ (Or.inl ⟨_, rfl, rfl, hd, ?_⟩) hc (by omega) hW hS
          obtain ⟨-, hk⟩ := Bool.and_eq_true_iff.mp hk
          simp only at hk
          split at hk
          · exact Or.inl (of_decide_eq_true hk)
          · rename_i hne
            exact Or.inr ⟨of_decide_eq_true hk, wl.resolve_left (fun z => hne z)⟩
        · exact w.elim
      | lreturn =>
        simp only at w
        split at w
        · obtain ⟨rfl, rfl⟩ := w
          exact hret pc H locs cells slots ls _ (Or.inr (Or.inl ⟨_, rfl, rfl, hd, of_decide_eq_true (Bool.and_eq_true_iff.mp hk).2⟩)) hc (by omega) hW hS
        · exact w.elim
      | areturn =>
        have hrt : ∃ rt, q.2.2.2 = some rt ∧ ((∃ n, rt = .object n) ∨ ∃ t, rt = .array t) := by
          obtain ⟨-, hk⟩ := Bool.and_eq_true_iff.mp hk
          simp only at hk
          split at hk
          · rename_i e1; exact ⟨_, e1, Or.inl ⟨_, rfl⟩⟩
          · rename_i e1; exact ⟨_, e1, Or.inr ⟨_, rfl⟩⟩
          · cases hk
        obtain ⟨rt, hrt1, hrt2⟩ := hrt
        simp only at w
        split at w
        · obtain ⟨rfl, rfl⟩ := w
          exact hret pc H locs cells slots ls _ (Or.inr (Or.inr (Or.inl ⟨_, _, rt, rfl, rfl, rfl, hd, hrt1, hrt2⟩))) hc (by omega) hW hS
        · obtain ⟨rfl, rfl⟩ := w
          exact hret pc H locs cells slots ls _ (Or.inr (Or.inr (Or.inl ⟨_, _, rt, rfl, rfl, rfl, hd, hrt1, hrt2⟩))) hc (by omega) hW hS
        · exact w.elim
      | return_ =>
        simp only at w
        split at w
        · obtain ⟨rfl, rfl⟩ := w
          exact hret pc H locs cells slots ls _ (Or.inr (Or.inr (Or.inr ⟨rfl, rfl, hd, of_decide_eq_true (Bool.and_eq_true_iff.mp hk).2⟩))) hc (by omega) hW hS
        · exact w.elim
      | invokestatic k =>
        simp only at w
        split at w
        · rename_i e1; exact plain e1 w
        · rename_i a z tl e1
          split at w
          · rename_i e2
            obtain ⟨hz1, hz2⟩ := Bool.and_eq_true_iff.mp hz0
            simp only [e1, List.length_cons, decide_eq_true_eq] at hz2
            have htl : tl = [] := List.eq_nil_of_length_eq_zero (by omega)
            subst htl
            have hzl : z < NL := of_decide_eq_true (List.all_eq_true.mp hz1 (a, z) (by rw [e1]; exact List.mem_singleton.mpr rfl))
            obtain ⟨d0, q2, r1, h1, rfl, hq2, h8, hMet, g1, w1⟩ := call hzl w
            obtain ⟨hqc, hq40, -, -⟩ := hM z hzl q2 hq2
            have hg' := hgr w1
            exact step_S F hc hW hS hlo hq2 hqc hq40 e1 hk hMet g1 (show CRoom R d0 from ⟨by have := hRoom.1; omega, by have := hRoom.2; omega⟩) (by omega) h8 (of_decide_eq_true e2) (after g1 w1)
          · exact w.elim
      | invokespecial k =>
        simp only at w
        split at w
        · rename_i e1; exact plain e1 w
        · rename_i a z tl e1
          split at w
          · rename_i o rs e2
            obtain ⟨hz1, hz2⟩ := Bool.and_eq_true_iff.mp hz0
            simp only [e1, List.length_cons, decide_eq_true_eq] at hz2
            have htl : tl = [] := List.eq_nil_of_length_eq_zero (by omega)
            subst htl
            have hzl : z < NL := of_decide_eq_true (List.all_eq_true.mp hz1 (a, z) (by rw [e1]; exact List.mem_singleton.mpr rfl))
            obtain ⟨d0, q2, r1, h1, rfl, hq2, h8, hMet, g1, w1⟩ := call hzl w
            obtain ⟨hqc, hq40, -, -⟩ := hM z hzl q2 hq2
            have hg' := hgr w1
            exact step_I F hc hW hS hlo hq2 hqc hq40 e1 hk e2 hMet g1 (show CRoom R d0 from ⟨by have := hRoom.1; omega, by have := hRoom.2; omega⟩) (by omega) h8 (after g1 w1)
          · exact w.elim
      | invokevirtual k =>
        simp only at w
        split at w
        · rename_i e1; exact plain e1 w
        · rename_i c1 cs e1
          split at w
          · rename_i o rs e2
            obtain ⟨z, w1, ⟨ci, hmem, ho⟩, -⟩ := cal_pick _ w
            rw [← e1] at hmem
            have hzl : z < NL := of_decide_eq_true (List.all_eq_true.mp hz0 (ci, z) hmem)
            obtain ⟨d0, q2, r1, h1, rfl, hq2, h8, hMet, g1, w1⟩ := call hzl w1
            obtain ⟨hqc, hq40, -, -⟩ := hM z hzl q2 hq2
            have hg' := hgr w1
            exact step_V F hc hW hS hlo hq2 hqc hq40 hmem ho hk e2 hMet g1 (show CRoom R d0 from ⟨by have := hRoom.1; omega, by have := hRoom.2; omega⟩) (by omega) h8 (after g1 w1)
          · exact w.elim
      | _ => exact plain trivial w
end S19
/-! the rows' checks, method by method -/
theorem lookup_mem {b : List (Nat × Row)} {pc : Nat} {r : Row} (h : b.lookup pc = some r) : (pc, r) ∈ b := by
  induction b with
  | nil => cases h
  | cons a b ih =>
    obtain ⟨k, v⟩ := a
    rw [List.lookup_cons] at h
    split at h
    · rename_i e
      cases h
      have : pc = k := by simpa using e
      subst this
      exact List.mem_cons_self
    · exact List.mem_cons_of_mem _ (ih h)
theorem rows_of {own : String} {ini : Bool} {ml : Nat} {rt : Option FieldType} {cc : ByteArray} {b : List (Nat × Row)} {ht : List (List Nat)} (hck : rokM own ini ml rt cc b ht = true) (hcz : (b.all fun e => cz e.2) = true) (hlen : b.length = ht.length) {pc : Nat} {i : Instr} {lk : Lk} (h : b.lookup pc = some (i, lk)) :
    ∃ hp, rok own ini ml rt cc pc i lk hp = true ∧ cz (i, lk) = true := by
  have hm := lookup_mem h
  obtain ⟨j, hj⟩ := List.getElem?_of_mem hm
  have hjl := (List.getElem?_eq_some_iff.mp hj).1
  have hz : (b.zip ht)[j]? = some ((pc, i, lk), ht[j]'(by omega)) := by
    rw [List.getElem?_zip_eq_some]
    exact ⟨hj, List.getElem?_eq_getElem _⟩
  unfold rokM at hck
  have h1 := List.all_eq_true.mp hck ((pc, i, lk), ht[j]'(by omega)) (List.mem_of_getElem? hz)
  have h2 := List.all_eq_true.mp hcz (pc, i, lk) hm
  dsimp only at h1 h2
  exact ⟨ht[j]'(by omega), h1, h2⟩
