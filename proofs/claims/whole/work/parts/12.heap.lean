section S12
variable {p : Program} {l : Launch} {e : Env} {R : Room} {s : State} {m : MethodId} {args : Array Value} {below : List Frame} {meth : Method} {c : Code} {H : Heap} {locs : List Loc} {cells slots : Nat} {Q : State → Prop}
variable {B n0 : Nat} {X : Cst} {sa : Nat → Nat} {cA : Nat → ClassId} {D : va_G} {own : String} {ini : Bool} {ml : Nat} {rt : Option FieldType} {cc : ByteArray} {pc : Nat} {L : Lo} {S : List Value} {h : AH} {ls : Array Slot} {lk : Lk} {hp : List Nat} {K : Cont}
theorem nI_ofNat (n : Nat) : Int32.ofNat n = nI n := rfl
/-- arrays -/
theorem step_arr (F : Fx p R s m args meth c B n0 X sa cA D own ini ml cc) (hc : hn h = n0 + cells) (hW : WR B cA D s H h) (hS : va_S (fun q => B ≤ q) s.heap H locs) (hlo : hasL B sa ls ml L) {i : Instr}
    (hk : rok own ini ml rt cc pc i lk hp = true) (w : wpI X i lk pc L S h K) (kk : Go p l e R s m args below meth c Q B n0 sa cA D ml slots h K)
    (hi : match i with
      | .iaload | .baload | .laload | .aaload | .iastore | .bastore | .lastore | .aastore | .arraylength => True
      | _ => False) :
    W p l e R s m args below meth c H locs cells slots Q (F0 m pc ls (S.map (cv B sa))) := by
  obtain ⟨hx, hb, hml, hown, hts, hin, hRm, hE, hs0⟩ := F
  have hd := rk hk
  have go := fun {pc' : Nat} {L' : Lo} {S' : List Value} {ls' : Array Slot} => Go.same (pc' := pc') (L' := L') (S' := S') (ls' := ls') kk hc hW hS
  have hscr := hE.2.2.2.2.1
  have hscrA : ¬ (fun q => B ≤ q) (sa SCR) := by show ¬ B ≤ sa SCR; omega
  have hscrl : sa SCR < s.heap.size := by omega
  cases i <;> try exact hi.elim
  case iaload =>
    simp only [wpI] at w
    split at w
    · obtain ⟨rfl, w1, w⟩ := w
      exact va_sld hx hb hscr.1 hscrl hscrA hS w1 hd (go w hlo)
    · obtain ⟨w0, w1, w⟩ := w
      rename_i i a r
      exact va_iald hx hb (K1 hE hW w0 (by omega)) hW.1 a 0 (by rw [RL_get (hW.lt1 (by omega)), ent_i w0]) rfl w1 hd (go w hlo)
    · exact w.elim
  case baload =>
    obtain ⟨i, a, r, rfl, w0, w1, w⟩ := ir_e w
    rcases w0 with w0 | w0
    · exact va_bald hx hb (K1 hE hW w0 (by omega)) hW.1 a 0 (by rw [RL_get (hW.lt1 (by omega)), ent_b w0]) rfl w1 hd (go w hlo)
    · exact va_zald hx hb (K1 hE hW w0 (by omega)) hW.1 a 0 (by rw [RL_get (hW.lt1 (by omega)), ent_z w0]) rfl w1 hd (go w hlo)
  case laload =>
    obtain ⟨i, a, r, rfl, w0, w1, w⟩ := ir_e w
    exact va_lald hx hb (K1 hE hW w0 (by omega)) hW.1 a 0 (by rw [RL_get (hW.lt1 (by omega)), ent_l w0]) rfl w1 hd (go w hlo)
  case aaload =>
    obtain ⟨i, a, r, rfl, w0, w1, q, w2, w⟩ := ir_e w
    obtain ⟨n, hn'⟩ : ∃ n, (hs h a).1 = n + 5 := ⟨(hs h a).1 - 5, by omega⟩
    refine va_aldq hx hb (K1 hE hW hn' (by omega)) hW.1 a 0 (by rw [RL_get (hW.lt1 (by omega)), ent_q hn']) (C := clN n) rfl w1 hd ?_
    rw [w2]
    exact go (S' := .ref q :: r) w hlo
  case iastore =>
    simp only [wpI] at w
    split at w
    · obtain ⟨w0, w1, w⟩ := w
      rename_i x i a r
      refine va_iast hx hb (K1 hE hW w0 (by omega)) hW.1 RL_D hS a 0 (by rw [RL_get (hW.lt1 (by omega)), ent_i w0]) rfl w1 hd fun H1 locs1 hP1 hD1 hS1 => ?_
      exact kk.put hc (h' := wI h a i.toNatClampNeg x) rfl (hW.put rfl (by rw [ent_i (h := wI h a i.toNatClampNeg x) w0, wI_eq]; rfl) (fun j hj => ent_wI_ne hj) hP1) hS1 w hlo
    · exact w.elim
  case bastore =>
    simp only [wpI] at w
    split at w
    · rename_i x i a r
      rcases w with ⟨w0, w1, w⟩ | ⟨w0, w1, w⟩
      · refine va_bast hx hb (K1 hE hW w0 (by omega)) hW.1 RL_D hS a 0 (by rw [RL_get (hW.lt1 (by omega)), ent_b w0]) rfl w1 hd fun H1 locs1 hP1 hD1 hS1 => ?_
        exact kk.put hc (h' := wI h a i.toNatClampNeg (vp_nar .byte x)) rfl (hW.put rfl (by rw [ent_b (h := wI h a i.toNatClampNeg (vp_nar .byte x)) w0, wI_eq]; rfl) (fun j hj => ent_wI_ne hj) hP1) hS1 w hlo
      · refine va_zast hx hb (K1 hE hW w0 (by omega)) hW.1 RL_D hS a 0 (by rw [RL_get (hW.lt1 (by omega)), ent_z w0]) rfl w1 hd fun H1 locs1 hP1 hD1 hS1 => ?_
        exact kk.put hc (h' := wI h a i.toNatClampNeg (vp_nar .boolean x)) rfl (hW.put rfl (by rw [ent_z (h := wI h a i.toNatClampNeg (vp_nar .boolean x)) w0, wI_eq]; rfl) (fun j hj => ent_wI_ne hj) hP1) hS1 w hlo
    · exact w.elim
  case lastore =>
    simp only [wpI] at w
    split at w
    · obtain ⟨w0, w1, w⟩ := w
      rename_i x i a r
      refine va_last hx hb (K1 hE hW w0 (by omega)) hW.1 RL_D hS a 0 (by rw [RL_get (hW.lt1 (by omega)), ent_l w0]) rfl w1 hd fun H1 locs1 hP1 hD1 hS1 => ?_
      exact kk.put hc (h' := wL h a i.toNatClampNeg x) rfl (hW.put rfl (by rw [ent_l (h := wL h a i.toNatClampNeg x) w0, wL_eq]; rfl) (fun j hj => ent_wL_ne hj) hP1) hS1 w hlo
    · exact w.elim
  case aastore =>
    simp only [wpI] at w
    split at w
    · obtain ⟨⟨k, wk, w0, wq⟩, w1, w⟩ := w
      rename_i q i a r
      have w0' : (hs h a).1 = k + 5 := by omega
      by_cases hkl : k < CL.length
      · obtain ⟨T, N, hcl⟩ := CL_get hkl
        refine va_astq hx hb (K1 hE hW w0' (by omega)) hW.1 RL_D hS a 0 q k (r := (clN k, T, N)) (by rw [RL_get (hW.lt1 (by omega)), ent_q w0']) rfl (by rw [RL_get (hW.ltc wq wk), ent_obj wq]) hcl w1 hd fun H1 locs1 hP1 hD1 hS1 => ?_
        refine kk.put hc (h' := wR h a i.toNatClampNeg (some q)) rfl (hW.put rfl ?_ (fun j hj => ent_wR_ne hj) hP1) hS1 w hlo
        rw [ent_q (h := wR h a i.toNatClampNeg (some q)) w0', wR_eq]
        have e : (fun j => (va_up (hR h a) i.toNatClampNeg (some q) j).map (B + ·)) = va_up (fun j => (hR h a j).map (B + ·)) i.toNatClampNeg (some (B + q)) := by
          funext j
          by_cases z : j = i.toNatClampNeg
          · subst z; rw [va_up_self, va_up_self]; rfl
          · rw [va_up_ne _ _ z, va_up_ne _ _ z]
        rw [e]
        rfl
      · exfalso
        -- no object is of a class that the tables don't have
        obtain ⟨r0, h1, -⟩ := (hW.1 q _ (RL_get (hW.ltc wq wk)) : va_at D CL (B + q, ent B cA h q) H) |> fun z => by rw [ent_obj wq] at z; exact z
        exact hkl (List.getElem?_eq_some_iff.mp h1).1
    · exact w.elim
  case arraylength =>
    simp only [wpI] at w
    split at w
    · obtain ⟨rfl, w⟩ := w
      exact va_slen hx hb hscr.1 hscrl hscrA hS hd (go w hlo)
    · rename_i a r
      obtain ⟨w0, w⟩ := w
      obtain ⟨t, ht⟩ : ∃ t, (hs h a).1 = t := ⟨_, rfl⟩
      have hKt := K1 hE hW ht (by omega)
      have hl := hW.lt1 w0
      match t, ht, hKt with
      | 0, ht, _ => omega
      | 1, ht, hKt => exact va_alen hx hb hKt hW.1 a 0 (x := ((hs h a).2, .inl (hI h a))) (by rw [RL_get hl, ent_i ht]) rfl rfl hd (go w hlo)
      | 2, ht, hKt => exact va_alen hx hb hKt hW.1 a 0 (x := ((hs h a).2, .inr (.inl (hL h a)))) (by rw [RL_get hl, ent_l ht]) rfl rfl hd (go w hlo)
      | 3, ht, hKt => exact va_alen hx hb hKt hW.1 a 0 (x := ((hs h a).2, .inl (hI h a))) (by rw [RL_get hl, ent_b ht]) rfl rfl hd (go w hlo)
      | 4, ht, hKt => exact va_alen hx hb hKt hW.1 a 0 (x := ((hs h a).2, .inl (hI h a))) (by rw [RL_get hl, ent_z ht]) rfl rfl hd (go w hlo)
      | n + 5, ht, hKt => exact va_alen hx hb hKt hW.1 a 0 (x := ((hs h a).2, .inr (.inr (.inr (.inr fun j => (hR h a j).map (B + ·)))))) (by rw [RL_get hl, ent_q ht]) rfl rfl hd (go w hlo)
    · exact w.elim
end S12
