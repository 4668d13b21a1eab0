/-- one row on: what wpn asks at n + 1 -/
theorem Ex.row {X : Cst} {P : Prg} {d y pc : Nat} {L : Lo} {S : List Value} {h : AH} {Q : Post} {i : Instr} {lk : Lk} (hp : P.1 y pc = some (i, lk)) (hi : ∀ n, wpI X i lk pc L S h (fun pc' L' S' h' => wpn X P n d y pc' L' S' h' Q) → wpn X P (n + 1) d y pc L S h Q)
    (w : wpI X i lk pc L S h (fun pc' L' S' h' => Ex X P d y pc' L' S' h' Q)) : Ex X P d y pc L S h Q := by
  obtain ⟨pc', L', S', h', ⟨n, a⟩, -, b⟩ := wpI_pick w
  exact ⟨n + 1, hi n (b _ a)⟩
theorem Ex.callAt {X : Cst} {P : Prg} {d y z pc : Nat} {L : Lo} {S As rest : List Value} {h : AH} {Q : Post} (hstep : ∀ n, clW P (wpn X P n) (d + 1) z As rest h (fun v h' => wpn X P n (d + 1) y (pc + 3) L (v.toList ++ rest) h' Q) → wpn X P (n + 1) (d + 1) y pc L S h Q)
    (w : clE X P d z As rest h (fun v h' => Ex X P (d + 1) y (pc + 3) L (v.toList ++ rest) h' Q)) : Ex X P (d + 1) y pc L S h Q :=
  Ex.call (pc := pc + 3) (fun n a => ⟨n + 1, hstep n a⟩) w
theorem clE_mono {X : Cst} {P : Prg} {d z : Nat} {As rest : List Value} {h : AH} {C C' : Post} (w : clE X P d z As rest h C) (k : ∀ v h', C v h' → C' v h') : clE X P d z As rest h C' := by
  unfold clE at w ⊢
  split at w
  · exact w.mono (Nat.le_refl _) k
  · exact w.elim
theorem wpx_ok {X : Cst} {P : Prg} {cut : List Nat} : ∀ (n d y pc : Nat) (L : Lo) (S : List Value) (h : AH) (Q : Post), wpx X P cut n d y pc L S h Q → Ex X P (d + 1) y pc L S h Q := by
  intro n
  induction n with
  | zero => intro d y pc L S h Q w; exact w
  | succ n ih =>
    intro d y pc L S h Q w
    unfold wpx at w
    cases hp : P.1 y pc with
    | none => rw [hp] at w; exact w.elim
    | some q =>
      obtain ⟨i, lk⟩ := q
      rw [hp] at w
      cases i with
      | ireturn =>
        simp only at w
        split at w
        · split at w
          · rename_i e
            exact ⟨1, by unfold wpn; rw [hp]; exact ⟨Or.inl e, w⟩⟩
          · exact ⟨1, by unfold wpn; rw [hp]; exact ⟨Or.inr w.1, w.2⟩⟩
        · exact w.elim
      | lreturn =>
        simp only at w
        split at w
        · exact ⟨1, by unfold wpn; rw [hp]; exact w⟩
        · exact w.elim
      | areturn =>
        simp only at w
        split at w
        · exact ⟨1, by unfold wpn; rw [hp]; exact w⟩
        · exact ⟨1, by unfold wpn; rw [hp]; exact w⟩
        · exact w.elim
      | return_ =>
        simp only at w
        split at w
        · exact ⟨1, by unfold wpn; rw [hp]; exact w⟩
        · exact w.elim
      | invokestatic k =>
        simp only at w
        split at w
        · rename_i e
          exact Ex.row hp (fun n a => by unfold wpn; rw [hp]; simp only [e]; exact a) (wpI_mono w fun _ _ _ _ a => ih _ _ _ _ _ _ _ a)
        · rename_i e
          split at w
          · rename_i e2
            exact Ex.callAt (fun n a => by unfold wpn; rw [hp]; simp only [e, e2]; exact a) (clE_mono w fun _ _ a => ih _ _ _ _ _ _ _ (kt_e a))
          · exact w.elim
      | invokespecial k =>
        simp only at w
        split at w
        · rename_i e
          exact Ex.row hp (fun n a => by unfold wpn; rw [hp]; simp only [e]; exact a) (wpI_mono w fun _ _ _ _ a => ih _ _ _ _ _ _ _ a)
        · rename_i e
          split at w
          · rename_i e2
            exact Ex.callAt (fun n a => by unfold wpn; rw [hp]; simp only [e, e2]; exact a) (clE_mono w fun _ _ a => ih _ _ _ _ _ _ _ (kt_e a))
          · exact w.elim
      | invokevirtual k =>
        simp only at w
        split at w
        · rename_i e
          exact Ex.row hp (fun n a => by unfold wpn; rw [hp]; simp only [e]; exact a) (wpI_mono w fun _ _ _ _ a => ih _ _ _ _ _ _ _ a)
        · rename_i e
          split at w
          · rename_i e2
            obtain ⟨z, w1, -, w2⟩ := cal_pick _ w
            exact Ex.callAt (fun n a => by unfold wpn; rw [hp]; simp only [e, e2]; exact w2 _ a) (clE_mono w1 fun _ _ a => ih _ _ _ _ _ _ _ (kt_e a))
          · exact w.elim
      | _ =>
        refine Ex.row hp (fun n a => by unfold wpn; rw [hp]; exact a) (wpI_mono w fun pc' _ _ _ a => ?_)
        cases hc : cut.contains pc' with
        | true => simp only [hc] at a; exact a
        | false => simp only [hc] at a; exact ih _ _ _ _ _ _ _ a
