theorem cal_pick {h : AH} {o : Nat} {C : Nat → Prop} : ∀ (cs : List (Nat × Nat)), cal h o C cs → ∃ z, C z ∧ (∃ c, (c, z) ∈ cs ∧ hs h o = (0, c)) ∧ ∀ C' : Nat → Prop, C' z → cal h o C' cs
  | [], w => w.elim
  | [c], w => ⟨c.2, w.2, ⟨c.1, List.mem_singleton.mpr rfl, w.1⟩, fun _ w' => ⟨w.1, w'⟩⟩
  | c :: d :: r, w => by
    rcases br_pick w with ⟨q, w⟩ | ⟨q, w⟩
    · exact ⟨c.2, w, ⟨c.1, List.mem_cons_self, q⟩, fun _ w' => ⟨fun _ => w', fun q' => absurd q q'⟩⟩
    · obtain ⟨z, w1, ⟨k, w2, w3⟩, w4⟩ := cal_pick (d :: r) w
      exact ⟨z, w1, ⟨k, List.mem_cons_of_mem _ w2, w3⟩, fun C' w' => ⟨fun q' => absurd q' q, fun _ => w4 C' w'⟩⟩
theorem clW_e {P : Prg} {rec : Nat → Nat → Nat → Lo → List Value → AH → Post → Prop} {d y : Nat} {As rest : List Value} {h : AH} {C : Post} (w : clW P rec d y As rest h C) :
    ∃ d', d = d' + 1 ∧ ((As.map Value.category).sum ≤ P.2 y ∧ (rest.map Value.category).sum ≤ 8) ∧ rec d' y 0 (entL (P.2 y) As) [] h C := by
  cases d with
  | zero => exact w.elim
  | succ d =>
    simp only [clW] at w
    split at w
    · rename_i q
      exact ⟨d, rfl, of_decide_eq_true q, w⟩
    · exact w.elim
theorem clW_i {P : Prg} {rec : Nat → Nat → Nat → Lo → List Value → AH → Post → Prop} {d y : Nat} {As rest : List Value} {h : AH} {C : Post} (q : (As.map Value.category).sum ≤ P.2 y ∧ (rest.map Value.category).sum ≤ 8) (w : rec d y 0 (entL (P.2 y) As) [] h C) : clW P rec (d + 1) y As rest h C := by
  simp only [clW, decide_eq_true q]
  exact w
/-- the same run with fewer words at its end, or more, with more steps and deeper calls allowed; and its one end -/
theorem wpn_both {X : Cst} {P : Prg} : ∀ (n d y pc : Nat) (L : Lo) (S : List Value) (h : AH) (Q : Post), wpn X P n d y pc L S h Q →
    ∃ r h', Q r h' ∧ (hn h ≤ hn h' ∧ hz h ≤ hz h') ∧ ∀ (n' d' : Nat) (Q' : Post), n ≤ n' → d ≤ d' → Q' r h' → wpn X P n' d' y pc L S h Q' := by
  intro n
  induction n with
  | zero => intro d y pc L S h Q w; exact w.elim
  | succ n ih =>
    intro d y pc L S h Q w
    have rf : hn h ≤ hn h ∧ hz h ≤ hz h := ⟨Nat.le_refl _, Nat.le_refl _⟩
    unfold wpn at w
    cases hp : P.1 y pc with
    | none => rw [hp] at w; exact w.elim
    | some q =>
      obtain ⟨i, lk⟩ := q
      rw [hp] at w
      -- a plain instruction
      have plain : ∀ j : Instr, wpI X j lk pc L S h (fun pc' L' S' h' => wpn X P n d y pc' L' S' h' Q) → ∃ r h', Q r h' ∧ (hn h ≤ hn h' ∧ hz h ≤ hz h') ∧ ∀ (n' d' : Nat) (Q' : Post), n ≤ n' → d ≤ d' → Q' r h' → wpI X j lk pc L S h (fun pc' L' S' h' => wpn X P n' d' y pc' L' S' h' Q') := by
        intro j w
        obtain ⟨pc', L', S', h1, w1, g1, w2⟩ := wpI_pick w
        obtain ⟨r, h', q1, g2, q2⟩ := ih d y pc' L' S' h1 Q w1
        exact ⟨r, h', q1, ⟨Nat.le_trans g1.1 g2.1, Nat.le_trans g1.2 g2.2⟩, fun n' d' Q' a b c => w2 _ (q2 n' d' Q' a b c)⟩
      -- a call
      have call : ∀ (z : Nat) (As rest : List Value), clW P (wpn X P n) d z As rest h (fun v h' => wpn X P n d y (pc + 3) L (v.toList ++ rest) h' Q) → ∃ r h', Q r h' ∧ (hn h ≤ hn h' ∧ hz h ≤ hz h') ∧ ∀ (n' d' : Nat) (Q' : Post), n ≤ n' → d ≤ d' → Q' r h' → clW P (wpn X P n') d' z As rest h (fun v h' => wpn X P n' d' y (pc + 3) L (v.toList ++ rest) h' Q') := by
        intro z As rest w
        obtain ⟨d0, rfl, hc, w⟩ := clW_e w
        obtain ⟨r1, h1, w1, g1, w2⟩ := ih d0 z 0 _ _ h _ w
        obtain ⟨r, h', q1, g2, q2⟩ := ih (d0 + 1) y (pc + 3) _ _ h1 Q w1
        refine ⟨r, h', q1, ⟨Nat.le_trans g1.1 g2.1, Nat.le_trans g1.2 g2.2⟩, fun n' d' Q' a b c => ?_⟩
        obtain ⟨d1, rfl⟩ : ∃ d1, d' = d1 + 1 := ⟨d' - 1, by omega⟩
        exact clW_i hc (w2 n' d1 _ a (by omega) (q2 n' (d1 + 1) Q' a b c))
      have fin : ∀ (A : Nat → Nat → Post → Prop), (∃ r h', Q r h' ∧ (hn h ≤ hn h' ∧ hz h ≤ hz h') ∧ ∀ (n' d' : Nat) (Q' : Post), n ≤ n' → d ≤ d' → Q' r h' → A n' d' Q') → (∀ n' d' Q', A n' d' Q' → wpn X P (n' + 1) d' y pc L S h Q') → ∃ r h', Q r h' ∧ (hn h ≤ hn h' ∧ hz h ≤ hz h') ∧ ∀ (n' d' : Nat) (Q' : Post), n + 1 ≤ n' → d ≤ d' → Q' r h' → wpn X P n' d' y pc L S h Q' := by
        intro A ⟨r, h', a, b, c⟩ e
        refine ⟨r, h', a, b, fun n' d' Q' h1 h2 h3 => ?_⟩
        obtain ⟨n1, rfl⟩ : ∃ n1, n' = n1 + 1 := ⟨n' - 1, by omega⟩
        exact e n1 d' Q' (c n1 d' Q' (by omega) h2 h3)
      cases i with
      | ireturn =>
        simp only at w
        split at w
        · exact fin (fun _ _ Q' => _ ∧ Q' _ _) ⟨_, _, w.2, rf, fun _ _ _ _ _ c => ⟨w.1, c⟩⟩ (fun n' d' Q' a => by unfold wpn; rw [hp]; exact a)
        · exact w.elim
      | lreturn =>
        simp only at w
        split at w
        · exact fin (fun _ _ Q' => Q' _ _) ⟨_, _, w, rf, fun _ _ _ _ _ c => c⟩ (fun n' d' Q' a => by unfold wpn; rw [hp]; exact a)
        · exact w.elim
      | areturn =>
        simp only at w
        split at w
        · exact fin (fun _ _ Q' => Q' _ _) ⟨_, _, w, rf, fun _ _ _ _ _ c => c⟩ (fun n' d' Q' a => by unfold wpn; rw [hp]; exact a)
        · exact fin (fun _ _ Q' => Q' _ _) ⟨_, _, w, rf, fun _ _ _ _ _ c => c⟩ (fun n' d' Q' a => by unfold wpn; rw [hp]; exact a)
        · exact w.elim
      | return_ =>
        simp only at w
        split at w
        · exact fin (fun _ _ Q' => Q' _ _) ⟨_, _, w, rf, fun _ _ _ _ _ c => c⟩ (fun n' d' Q' a => by unfold wpn; rw [hp]; exact a)
        · exact w.elim
      | invokestatic k =>
        simp only at w
        split at w
        · rename_i e
          exact fin (fun n' d' Q' => wpI X (.invokestatic k) lk pc L S h (fun pc' L' S' h' => wpn X P n' d' y pc' L' S' h' Q')) (plain _ w) (fun n' d' Q' a => by unfold wpn; rw [hp]; simp only [e]; exact a)
        · rename_i e
          split at w
          · rename_i e2
            exact fin (fun n' d' Q' => clW P (wpn X P n') d' _ _ _ h (fun v h' => wpn X P n' d' y (pc + 3) L (v.toList ++ _) h' Q')) (call _ _ _ w) (fun n' d' Q' a => by unfold wpn; rw [hp]; simp only [e, e2]; exact a)
          · exact w.elim
      | invokespecial k =>
        simp only at w
        split at w
        · rename_i e
          exact fin (fun n' d' Q' => wpI X (.invokespecial k) lk pc L S h (fun pc' L' S' h' => wpn X P n' d' y pc' L' S' h' Q')) (plain _ w) (fun n' d' Q' a => by unfold wpn; rw [hp]; simp only [e]; exact a)
        · rename_i e
          split at w
          · rename_i e2
            exact fin (fun n' d' Q' => clW P (wpn X P n') d' _ _ _ h (fun v h' => wpn X P n' d' y (pc + 3) L (v.toList ++ _) h' Q')) (call _ _ _ w) (fun n' d' Q' a => by unfold wpn; rw [hp]; simp only [e, e2]; exact a)
          · exact w.elim
      | invokevirtual k =>
        simp only at w
        split at w
        · rename_i e
          exact fin (fun n' d' Q' => wpI X (.invokevirtual k) lk pc L S h (fun pc' L' S' h' => wpn X P n' d' y pc' L' S' h' Q')) (plain _ w) (fun n' d' Q' a => by unfold wpn; rw [hp]; simp only [e]; exact a)
        · rename_i e
          split at w
          · rename_i e2
            obtain ⟨z, w1, -, w2⟩ := cal_pick _ w
            exact fin (fun n' d' Q' => clW P (wpn X P n') d' z _ _ h (fun v h' => wpn X P n' d' y (pc + 3) L (v.toList ++ _) h' Q')) (call _ _ _ w1) (fun n' d' Q' a => by unfold wpn; rw [hp]; simp only [e, e2]; exact w2 _ a)
          · exact w.elim
      | _ =>
        exact fin (fun n' d' Q' => wpI X _ lk pc L S h (fun pc' L' S' h' => wpn X P n' d' y pc' L' S' h' Q')) (plain _ w) (fun n' d' Q' a => by unfold wpn; rw [hp]; exact a)
/-- the run from a place comes to an end with Q -/
def Ex (X : Cst) (P : Prg) (d y pc : Nat) (L : Lo) (S : List Value) (h : AH) (Q : Post) : Prop := ∃ n, wpn X P n d y pc L S h Q
theorem Ex.mono {X : Cst} {P : Prg} {d d' y pc : Nat} {L : Lo} {S : List Value} {h : AH} {Q Q' : Post} (w : Ex X P d y pc L S h Q) (hd : d ≤ d') (k : ∀ r h', Q r h' → Q' r h') : Ex X P d' y pc L S h Q' := by
  obtain ⟨n, w⟩ := w
  obtain ⟨r, h', a, -, b⟩ := wpn_both n d y pc L S h Q w
  exact ⟨n, b n d' Q' (Nat.le_refl _) hd (k r h' a)⟩
/-- the straight way on, by the rows, up to a cut, a call, an end -/
def clE (X : Cst) (P : Prg) (d y : Nat) (As rest : List Value) (h : AH) (C : Post) : Prop := match decide ((As.map Value.category).sum ≤ P.2 y ∧ (rest.map Value.category).sum ≤ 8) with
  | true => Ex X P d y 0 (entL (P.2 y) As) [] h C
  | false => False
/-- what a call gives, by its kind: nothing, an int, a long, a reference, a string constant -/
def kt (z : Int) (K : List Value → AH → Prop) : Post := fun v h => match z.toNat with
  | 0 => v = none ∧ K [] h
  | 1 => ∃ r, v = some (.int r) ∧ K [.int r] h
  | 2 => ∃ r, v = some (.long r) ∧ K [.long r] h
  | 3 => ∃ r, v = some (.ref r) ∧ K [.ref r] h
  | _ => ∃ r, v = some (.retAddr r) ∧ K [.retAddr r] h
theorem kt_e {z : Int} {K : List Value → AH → Prop} {v : Option Value} {h : AH} (w : kt z K v h) : K v.toList h := by
  unfold kt at w
  split at w
  · obtain ⟨rfl, w⟩ := w; exact w
  · obtain ⟨r, rfl, w⟩ := w; exact w
  · obtain ⟨r, rfl, w⟩ := w; exact w
  · obtain ⟨r, rfl, w⟩ := w; exact w
  · obtain ⟨r, rfl, w⟩ := w; exact w
def wpx (X : Cst) (P : Prg) (cut : List Nat) : Nat → Nat → Nat → Nat → Lo → List Value → AH → Post → Prop
  | 0, d, y, pc, L, S, h, Q => Ex X P (d + 1) y pc L S h Q
  | n + 1, d, y, pc, L, S, h, Q => match P.1 y pc with
    | none => False
    | some (i, lk) => match i with
      | .ireturn => match S with
        | [.int x] => match lk.1 with
          | 0 => Q (some (.int x)) h
          | _ => (x = 0 ∨ x = 1) ∧ Q (some (.int x)) h
        | _ => False
      | .lreturn => match S with
        | [.long x] => Q (some (.long x)) h
        | _ => False
      | .areturn => match S with
        | [.ref x] => Q (some (.ref x)) h
        | [.retAddr x] => Q (some (.retAddr x)) h
        | _ => False
      | .return_ => match S with
        | [] => Q none h
        | _ => False
      | .invokestatic k => match lk.2.2.1 with
        | [] => wpI X (.invokestatic k) lk pc L S h (fun pc' L' S' h' => wpx X P cut n d y pc' L' S' h' Q)
        | (_, z) :: _ => match decide (lk.1 ≤ S.length) with
          | true => clE X P d z (S.take lk.1).reverse (S.drop lk.1) h (kt lk.2.2.2 fun v h' => wpx X P cut n d y (pc + 3) L (v ++ S.drop lk.1) h' Q)
          | false => False
      | .invokespecial k => match lk.2.2.1 with
        | [] => wpI X (.invokespecial k) lk pc L S h (fun pc' L' S' h' => wpx X P cut n d y pc' L' S' h' Q)
        | (_, z) :: _ => match S.drop lk.1 with
          | .ref o :: r => clE X P d z (.ref o :: (S.take lk.1).reverse) r h (kt lk.2.2.2 fun v h' => wpx X P cut n d y (pc + 3) L (v ++ r) h' Q)
          | _ => False
      | .invokevirtual k => match lk.2.2.1 with
        | [] => wpI X (.invokevirtual k) lk pc L S h (fun pc' L' S' h' => wpx X P cut n d y pc' L' S' h' Q)
        | c :: cs => match S.drop lk.1 with
          | .ref o :: r => cal h o (fun z => clE X P d z (.ref o :: (S.take lk.1).reverse) r h (kt lk.2.2.2 fun v h' => wpx X P cut n d y (pc + 3) L (v ++ r) h' Q)) (c :: cs)
          | _ => False
      | i => wpI X i lk pc L S h (fun pc' L' S' h' => match cut.contains pc' with
        | true => Ex X P (d + 1) y pc' L' S' h' Q
        | false => wpx X P cut n d y pc' L' S' h' Q)
theorem Ex.call {X : Cst} {P : Prg} {d y z pc : Nat} {L : Lo} {S As rest : List Value} {h : AH} {Q : Post} (hstep : ∀ n, clW P (wpn X P n) (d + 1) z As rest h (fun v h' => wpn X P n (d + 1) y pc L (v.toList ++ rest) h' Q) → Ex X P (d + 1) y (pc - 3) L S h Q)
    (w : clE X P d z As rest h (fun v h' => Ex X P (d + 1) y pc L (v.toList ++ rest) h' Q)) : Ex X P (d + 1) y (pc - 3) L S h Q := by
  unfold clE at w
  split at w
  · rename_i hc
    obtain ⟨n1, w⟩ := w
    obtain ⟨r, h', ⟨n2, a⟩, -, b⟩ := wpn_both _ _ _ _ _ _ _ _ w
    obtain ⟨r2, h2, q1, -, q2⟩ := wpn_both _ _ _ _ _ _ _ _ a
    refine hstep (n1 + n2) (clW_i (of_decide_eq_true hc) (b (n1 + n2) d _ (by omega) (Nat.le_refl _) (q2 (n1 + n2) (d + 1) Q (by omega) (Nat.le_refl _) q1)))
  · exact w.elim
