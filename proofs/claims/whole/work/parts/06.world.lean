/-! the small machine's cells as the machine's heap holds them -/
def cv (B : Nat) (sa : Nat → Nat) : Value → Value
  | .ref k => .ref (B + k)
  | .retAddr j => .ref (sa j)
  | v => v
theorem cv_cat (B : Nat) (sa : Nat → Nat) (v : Value) : (cv B sa v).category = v.category := by cases v <;> rfl
/-- a field's value, by its type -/
def fv (B : Nat) (h : AH) (k : Nat) (ty : FieldType) (i : Nat) : Value := match ty with
  | .long => .long (hL h k i)
  | .object _ => va_rf ((hR h k i).map (B + ·))
  | .array _ => va_rf ((hR h k i).map (B + ·))
  | _ => .int (hI h k i)
def clN (c : Nat) : String := match CL[c]? with
  | some q => q.1
  | none => ""
def tyA (t : Nat) : FieldType := match t with
  | 2 => .long
  | 3 => .byte
  | 4 => .boolean
  | n + 5 => .object (clN n)
  | _ => .int
def ent (B : Nat) (cA : Nat → ClassId) (h : AH) (k : Nat) : va_E := match (hs h k).1 with
  | 0 => .inr ((hs h k).2, (List.range (gN (hs h k).2)).map fun i => fv B h k (gY (hs h k).2 i) i)
  | 1 => .inl (cA 1, (hs h k).2, .inl (hI h k))
  | 2 => .inl (cA 2, (hs h k).2, .inr (.inl (hL h k)))
  | 3 => .inl (cA 3, (hs h k).2, .inl (hI h k))
  | 4 => .inl (cA 4, (hs h k).2, .inl (hI h k))
  | n + 5 => .inl (cA (n + 5), (hs h k).2, .inr (.inr (.inr (.inr fun j => (hR h k j).map (B + ·)))))
def RL (B : Nat) (cA : Nat → ClassId) (h : AH) : va_W := (List.range (hn h)).map fun k => (B + k, ent B cA h k)
theorem RL_get {B : Nat} {cA : Nat → ClassId} {h : AH} {k : Nat} (hk : k < hn h) : (RL B cA h)[k]? = some (B + k, ent B cA h k) := by
  simp [RL, hk]
theorem RL_some {B : Nat} {cA : Nat → ClassId} {h : AH} {k : Nat} {q : Nat × va_E} (hk : (RL B cA h)[k]? = some q) : k < hn h ∧ q = (B + k, ent B cA h k) := by
  have h1 : k < hn h := by
    have := (List.getElem?_eq_some_iff.mp hk).1
    simpa [RL] using this
  rw [RL_get h1] at hk
  exact ⟨h1, (Option.some.inj hk).symm⟩
theorem RL_D {B : Nat} {cA : Nat → ClassId} {h : AH} : va_D (fun q => B ≤ q) (RL B cA h) := by
  refine ⟨fun i j p q hi hj e => ?_, fun k q hk => ?_⟩
  · obtain ⟨-, rfl⟩ := RL_some hi
    obtain ⟨-, rfl⟩ := RL_some hj
    have : B + i = B + j := e
    omega
  · obtain ⟨-, rfl⟩ := RL_some hk
    exact Nat.le_add_right _ _
theorem RL_set {B : Nat} {cA : Nat → ClassId} {h h' : AH} {k : Nat} {e : va_E} (hh : hn h' = hn h) (he : ent B cA h' k = e) (ho : ∀ j, j ≠ k → ent B cA h' j = ent B cA h j) : (RL B cA h).set k (B + k, e) = RL B cA h' := by
  apply List.ext_getElem?
  intro j
  rw [List.getElem?_set]
  by_cases hj : k = j
  · subst hj
    by_cases hk : k < hn h
    · have hl : k < (RL B cA h).length := by simpa [RL] using hk
      rw [if_pos rfl, if_pos hl, RL_get (by omega), he]
    · have hl : ¬ k < (RL B cA h).length := by simpa [RL] using hk
      rw [if_pos rfl, if_neg hl]
      symm
      simp [RL]
      omega
  · rw [if_neg hj]
    by_cases hk : j < hn h
    · rw [RL_get hk, RL_get (by omega), ho j (fun q => hj q.symm)]
    · have h1 : (RL B cA h)[j]? = none := by simp [RL]; omega
      have h2 : (RL B cA h')[j]? = none := by simp [RL]; omega
      rw [h1, h2]
theorem RL_push {B : Nat} {cA : Nat → ClassId} {h h' : AH} {e : va_E} (hh : hn h' = hn h + 1) (he : ent B cA h' (hn h) = e) (ho : ∀ j, j < hn h → ent B cA h' j = ent B cA h j) : RL B cA h ++ [(B + hn h, e)] = RL B cA h' := by
  unfold RL
  rw [hh, List.range_succ, List.map_append, List.map_cons, List.map_nil, he]
  congr 1
  apply List.map_congr_left
  intro j hj
  rw [ho j (List.mem_range.mp hj)]
/-- a cell's picture hangs on its shape and its own contents alone -/
theorem ent_eq {B : Nat} {cA : Nat → ClassId} {h h' : AH} {k : Nat} (h1 : hs h' k = hs h k) (h2 : hI h' k = hI h k) (h3 : hL h' k = hL h k) (h4 : hR h' k = hR h k) : ent B cA h' k = ent B cA h k := by
  unfold ent fv
  rw [h1, h2, h3, h4]
theorem wI_ne {h : AH} {a j k : Nat} {x : Int32} (hk : k ≠ a) : hI (wI h a j x) k = hI h k := by
  show va_up (hI h) a _ k = _
  rw [va_up_ne _ _ hk]
theorem wI_eq {h : AH} {a j : Nat} {x : Int32} : hI (wI h a j x) a = va_up (hI h a) j x := by
  show va_up (hI h) a _ a = _
  rw [va_up_self]
theorem wL_ne {h : AH} {a j k : Nat} {x : Int64} (hk : k ≠ a) : hL (wL h a j x) k = hL h k := by
  show va_up (hL h) a _ k = _
  rw [va_up_ne _ _ hk]
theorem wL_eq {h : AH} {a j : Nat} {x : Int64} : hL (wL h a j x) a = va_up (hL h a) j x := by
  show va_up (hL h) a _ a = _
  rw [va_up_self]
theorem wR_ne {h : AH} {a j k : Nat} {x : Option Nat} (hk : k ≠ a) : hR (wR h a j x) k = hR h k := by
  show va_up (hR h) a _ k = _
  rw [va_up_ne _ _ hk]
theorem wR_eq {h : AH} {a j : Nat} {x : Option Nat} : hR (wR h a j x) a = va_up (hR h a) j x := by
  show va_up (hR h) a _ a = _
  rw [va_up_self]
theorem wC_ne {h : AH} {a sp b dp n k : Nat} (hk : k ≠ b) : hI (wC h a sp b dp n) k = hI h k := by
  show va_up (hI h) b _ k = _
  rw [va_up_ne _ _ hk]
theorem wC_eq {h : AH} {a sp b dp n : Nat} : hI (wC h a sp b dp n) b = va_cpy (hI h a) (hI h b) sp dp n := by
  show va_up (hI h) b _ b = _
  rw [va_up_self]
theorem ent_wI_ne {B : Nat} {cA : Nat → ClassId} {h : AH} {a j k : Nat} {x : Int32} (hk : k ≠ a) : ent B cA (wI h a j x) k = ent B cA h k := ent_eq rfl (wI_ne hk) rfl rfl
theorem ent_wL_ne {B : Nat} {cA : Nat → ClassId} {h : AH} {a j k : Nat} {x : Int64} (hk : k ≠ a) : ent B cA (wL h a j x) k = ent B cA h k := ent_eq rfl rfl (wL_ne hk) rfl
theorem ent_wR_ne {B : Nat} {cA : Nat → ClassId} {h : AH} {a j k : Nat} {x : Option Nat} (hk : k ≠ a) : ent B cA (wR h a j x) k = ent B cA h k := ent_eq rfl rfl rfl (wR_ne hk)
theorem ent_wC_ne {B : Nat} {cA : Nat → ClassId} {h : AH} {a sp b dp n k : Nat} (hk : k ≠ b) : ent B cA (wC h a sp b dp n) k = ent B cA h k := ent_eq rfl (wC_ne hk) rfl rfl
theorem ent_aN_ne {B : Nat} {cA : Nat → ClassId} {h : AH} {t : Nat × Nat} {z k : Nat} (hk : k ≠ hn h) : ent B cA (aN h t z) k = ent B cA h k :=
  ent_eq (va_up_ne _ _ hk) (va_up_ne _ _ hk) (va_up_ne _ _ hk) (va_up_ne _ _ hk)
/-- an object's picture -/
theorem ent_obj {B : Nat} {cA : Nat → ClassId} {h : AH} {k c : Nat} (hk : hs h k = (0, c)) : ent B cA h k = .inr (c, (List.range (gN c)).map fun i => fv B h k (gY c i) i) := by
  unfold ent; rw [hk]
theorem ent_i {B : Nat} {cA : Nat → ClassId} {h : AH} {k : Nat} (hk : (hs h k).1 = 1) : ent B cA h k = .inl (cA 1, (hs h k).2, .inl (hI h k)) := by
  unfold ent; rw [hk]
theorem ent_l {B : Nat} {cA : Nat → ClassId} {h : AH} {k : Nat} (hk : (hs h k).1 = 2) : ent B cA h k = .inl (cA 2, (hs h k).2, .inr (.inl (hL h k))) := by
  unfold ent; rw [hk]
theorem ent_b {B : Nat} {cA : Nat → ClassId} {h : AH} {k : Nat} (hk : (hs h k).1 = 3) : ent B cA h k = .inl (cA 3, (hs h k).2, .inl (hI h k)) := by
  unfold ent; rw [hk]
theorem ent_z {B : Nat} {cA : Nat → ClassId} {h : AH} {k : Nat} (hk : (hs h k).1 = 4) : ent B cA h k = .inl (cA 4, (hs h k).2, .inl (hI h k)) := by
  unfold ent; rw [hk]
theorem ent_q {B : Nat} {cA : Nat → ClassId} {h : AH} {k n : Nat} (hk : (hs h k).1 = n + 5) : ent B cA h k = .inl (cA (n + 5), (hs h k).2, .inr (.inr (.inr (.inr fun j => (hR h k j).map (B + ·))))) := by
  unfold ent; rw [hk]
/-- what is known of an array's class -/
def AT (cA : Nat → ClassId) (s : State) (t : Nat) : Prop := ArrOfT s (cA t) (tyA t) ∧ va_RA s (cA t) (tyA t)
/-- the heap H holds the cells h; B cells stood there before -/
def WR (B : Nat) (cA : Nat → ClassId) (D : va_G) (s : State) (H : Heap) (h : AH) : Prop :=
  va_P D CL (RL B cA h) H ∧ (∀ k, k < hn h → 1 ≤ (hs h k).1 → AT cA s (hs h k).1) ∧ ∀ k, hn h ≤ k → hs h k = (0, 999)
theorem WR.lt {B : Nat} {cA : Nat → ClassId} {D : va_G} {s : State} {H : Heap} {h : AH} {k : Nat} (w : WR B cA D s H h) (hk : hs h k ≠ (0, 999)) : k < hn h := by
  rcases Nat.lt_or_ge k (hn h) with q | q
  · exact q
  · exact absurd (w.2.2 k q) hk
theorem WR.lt1 {B : Nat} {cA : Nat → ClassId} {D : va_G} {s : State} {H : Heap} {h : AH} {k : Nat} (w : WR B cA D s H h) (hk : 1 ≤ (hs h k).1) : k < hn h := w.lt (fun q => by rw [q] at hk; simp at hk)
theorem WR.ltc {B : Nat} {cA : Nat → ClassId} {D : va_G} {s : State} {H : Heap} {h : AH} {k c : Nat} (w : WR B cA D s H h) (hk : hs h k = (0, c)) (hc : c < 100) : k < hn h := w.lt (fun q => by rw [hk] at q; cases q; omega)
theorem WR.moved {B : Nat} {cA : Nat → ClassId} {D : va_G} {s U : State} {H : Heap} {h : AH} (hvm : s.vm.Alike U.vm) (w : WR B cA D s H h) : WR B cA D U H h :=
  ⟨w.1, fun k a b => ⟨arrOfT_moved hvm (w.2.1 k a b).1, (w.2.1 k a b).2.moved hvm⟩, w.2.2⟩
theorem WR.size {B : Nat} {cA : Nat → ClassId} {D : va_G} {s : State} {H : Heap} {h : AH} (w : WR B cA D s H h) (hB : B ≤ H.size) : B + hn h ≤ H.size := by
  rcases Nat.eq_zero_or_pos (hn h) with q | q
  · omega
  · have := (w.1 (hn h - 1) _ (RL_get (by omega))).lt
    simp only at this
    omega
/-- a store into one cell -/
theorem WR.put {B : Nat} {cA : Nat → ClassId} {D : va_G} {s : State} {H H1 : Heap} {h h' : AH} {k : Nat} {e : va_E} (w : WR B cA D s H h) (hh : h'.1 = h.1) (he : ent B cA h' k = e) (ho : ∀ j, j ≠ k → ent B cA h' j = ent B cA h j) (hP : va_P D CL ((RL B cA h).set k (B + k, e)) H1) : WR B cA D s H1 h' := by
  have h1 : hn h' = hn h := congrArg (·.1) hh
  have h2 : hs h' = hs h := congrArg (·.2.2) hh
  refine ⟨?_, ?_, ?_⟩
  · rw [← RL_set h1 he ho]; exact hP
  · intro k; rw [h1, h2]; exact w.2.1 k
  · intro k; rw [h1, h2]; exact w.2.2 k
/-- a new cell -/
theorem WR.push {B : Nat} {cA : Nat → ClassId} {D : va_G} {s : State} {H H1 : Heap} {h : AH} {t : Nat × Nat} {z : Nat} {e : va_E} (w : WR B cA D s H h) (he : ent B cA (aN h t z) (hn h) = e) (hP : va_P D CL (RL B cA h ++ [(B + hn h, e)]) H1) (hA : 1 ≤ t.1 → AT cA s t.1) : WR B cA D s H1 (aN h t z) := by
  refine ⟨?_, fun k hk h1 => ?_, fun k hk => ?_⟩
  · rw [← RL_push (h := h) (h' := aN h t z) rfl he (fun j hj => ent_aN_ne (by omega))]; exact hP
  · have hk : k < hn h + 1 := hk
    by_cases q : k = hn h
    · subst q
      have e1 : hs (aN h t z) (hn h) = t := va_up_self _ _ _
      rw [e1] at h1 ⊢
      exact hA h1
    · have e1 : hs (aN h t z) k = hs h k := va_up_ne _ _ q
      rw [e1] at h1 ⊢
      exact w.2.1 k (by omega) h1
  · have hk : hn h + 1 ≤ k := hk
    have e1 : hs (aN h t z) k = hs h k := va_up_ne _ _ (by omega)
    rw [e1]
    exact w.2.2 k (by omega)
/-- where a new cell stands -/
theorem RL_fresh {B : Nat} {cA : Nat → ClassId} {D : va_G} {h : AH} {q : Nat} {e : va_E} {H1 : Heap} (hD : va_D (fun q => B ≤ q) (RL B cA h ++ [(q, e)])) (hP : va_P D CL (RL B cA h ++ [(q, e)]) H1) (hz : H1.size ≤ B + hn h + 1) : q = B + hn h := by
  have hl : (RL B cA h).length = hn h := by simp [RL]
  have hq : (RL B cA h ++ [(q, e)])[hn h]? = some (q, e) := by rw [List.getElem?_append_right (by omega), hl]; simp
  have h1 : B ≤ q := hD.2 _ _ hq
  have h2 : q < H1.size := (hP _ _ hq).lt
  rcases Nat.lt_or_ge q (B + hn h) with h3 | h3
  · have hk : (RL B cA h ++ [(q, e)])[q - B]? = some (B + (q - B), ent B cA h (q - B)) := by rw [List.getElem?_append_left (by omega)]; exact RL_get (by omega)
    have := hD.1 _ _ _ _ hq hk (by show q = B + (q - B); omega)
    omega
  · omega
