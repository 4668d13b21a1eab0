/-! ROWS of states that wait, by what they cost. -/
def DL (N : Int) (co ne be fi : Int → Int) (W : Int → Prop) (ts : Int → Int) (clk : Int) : Prop :=
  (∀ x, W x → (0 ≤ x ∧ x < N) ∧ 0 ≤ co x) ∧ (∀ x, W x → be x = -1 → fi (co x % 51) = x) ∧
  (∀ x, W x → ¬ be x = -1 → W (be x) ∧ ne (be x) = x ∧ co (be x) % 51 = co x % 51 ∧ ts x < ts (be x)) ∧
  (∀ x, W x → ¬ ne x = -1 → W (ne x) ∧ be (ne x) = x ∧ co (ne x) % 51 = co x % 51) ∧
  (∀ r, 0 ≤ r → r < 51 → ¬ fi r = -1 → W (fi r) ∧ co (fi r) % 51 = r ∧ be (fi r) = -1) ∧ (∀ x, W x → ts x < clk)
theorem DL_leave {N : Int} {co ne be fi ne' be' fi' : Int → Int} {W : Int → Prop} {ts : Int → Int} {clk x : Int} (hN : N ≤ 32768) (D : DL N co ne be fi W ts clk) (wx : W x)
    (a1 : be x = -1 → fi' = uu_ fi (co x % 51) (ne x) ∧ ne' = ne) (a2 : ¬ be x = -1 → fi' = fi ∧ ne' = uu_ ne (be x) (ne x)) (a3 : ne x = -1 → be' = be) (a4 : ¬ ne x = -1 → be' = uu_ be (ne x) (be x)) :
    DL N co ne' be' fi' (fun y => W y ∧ ¬ y = x) ts clk := by
  obtain ⟨d1, d2, d3, d4, d5, d6⟩ := D
  have rx := d1 x wx
  -- the new arrays, by places
  have fin : ∀ r, 0 ≤ r → r < 51 → ¬ (be x = -1 ∧ r = co x % 51) → fi' r = fi r := by
    intro r r0 r1 n
    by_cases c : be x = -1
    · rw [(a1 c).1, uu_ne (by omega) (by omega) (fun z => n ⟨c, z⟩)]
    · rw [(a2 c).1]
  have fie : be x = -1 → fi' (co x % 51) = ne x := fun c => by rw [(a1 c).1, uu_eq]
  have nen : ∀ y, W y → ¬ (¬ be x = -1 ∧ y = be x) → ne' y = ne y := by
    intro y wy n
    by_cases c : be x = -1
    · rw [(a1 c).2]
    · have ry := d1 y wy
      have rb := d1 _ (d3 x wx c).1
      rw [(a2 c).2, uu_ne (by omega) (by omega) (fun z => n ⟨c, z⟩)]
  have nee : ¬ be x = -1 → ne' (be x) = ne x := fun c => by rw [(a2 c).2, uu_eq]
  have ben : ∀ y, W y → ¬ (¬ ne x = -1 ∧ y = ne x) → be' y = be y := by
    intro y wy n
    by_cases c : ne x = -1
    · rw [a3 c]
    · have ry := d1 y wy
      have rb := d1 _ (d4 x wx c).1
      rw [a4 c, uu_ne (by omega) (by omega) (fun z => n ⟨c, z⟩)]
  have bee : ¬ ne x = -1 → be' (ne x) = be x := fun c => by rw [a4 c, uu_eq]
  have nx : ¬ ne x = -1 → ¬ ne x = x := fun c z => by
    have a := d4 x wx c
    have nb : ¬ be x = -1 := by
      have := a.2.1
      rw [z] at this
      have := (d1 x wx).1
      omega
    have := d3 x wx nb
    have e := a.2.1
    rw [z] at e
    rw [e] at this
    omega
  have bx : ¬ be x = -1 → ¬ be x = x := fun c z => by
    have a := d3 x wx c
    rw [z] at a
    omega
  refine ⟨fun y hy => d1 y hy.1, fun y hy hb => ?_, fun y hy hb => ?_, fun y hy hn => ?_, fun r r0 r1 hf => ?_, fun y hy => d6 y hy.1⟩
  · -- first in its row
    have ry := d1 y hy.1
    by_cases c : ¬ ne x = -1 ∧ y = ne x
    · have e := bee c.1
      rw [← c.2] at e
      have bx1 : be x = -1 := by omega
      have a := d4 x wx c.1
      have f := fie bx1
      rw [← a.2.2, ← c.2] at f
      exact f
    · rw [ben y hy.1 c] at hb
      have f := d2 y hy.1 hb
      rw [fin (co y % 51) (by omega) (by omega) (fun z => ?_)]
      · exact f
      · have fx := d2 x wx z.1
        rw [z.2, fx] at f
        exact hy.2 f.symm
  · by_cases c : ¬ ne x = -1 ∧ y = ne x
    · obtain ⟨c1, rfl⟩ := c
      have e := bee c1
      have nb : ¬ be x = -1 := fun z => hb (by rw [e, z])
      have a := d4 x wx c1
      have b := d3 x wx nb
      have t := d3 (ne x) hy.1 (by rw [a.2.1]; omega)
      rw [a.2.1] at t
      rw [e]
      refine ⟨⟨b.1, bx nb⟩, nee nb, by omega, by omega⟩
    · have eb := ben y hy.1 c
      rw [eb] at hb ⊢
      have b := d3 y hy.1 hb
      have byx : ¬ be y = x := fun z => by
        rw [z] at b
        exact c ⟨by have := (d1 y hy.1).1; omega, b.2.1.symm⟩
      refine ⟨⟨b.1, byx⟩, ?_, b.2.2⟩
      rw [nen (be y) b.1 (fun z => ?_)]
      · exact b.2.1
      · have := (d3 x wx z.1).2.1
        rw [← z.2, b.2.1] at this
        exact hy.2 this
  · by_cases c : ¬ be x = -1 ∧ y = be x
    · obtain ⟨c1, rfl⟩ := c
      have e := nee c1
      have nn : ¬ ne x = -1 := fun z => hn (by rw [e, z])
      have a := d4 x wx nn
      have b := d3 x wx c1
      rw [e]
      exact ⟨⟨a.1, nx nn⟩, bee nn, by omega⟩
    · have en := nen y hy.1 c
      rw [en] at hn ⊢
      have a := d4 y hy.1 hn
      have nyx : ¬ ne y = x := fun z => by
        rw [z] at a
        exact c ⟨by have := (d1 y hy.1).1; omega, a.2.1.symm⟩
      refine ⟨⟨a.1, nyx⟩, ?_, a.2.2⟩
      rw [ben (ne y) a.1 (fun z => ?_)]
      · exact a.2.1
      · have := (d4 x wx z.1).2.1
        rw [← z.2, a.2.1] at this
        exact hy.2 this
  · by_cases c : be x = -1 ∧ r = co x % 51
    · obtain ⟨c1, rfl⟩ := c
      rw [fie c1] at hf ⊢
      have a := d4 x wx hf
      exact ⟨⟨a.1, nx hf⟩, a.2.2, by rw [bee hf]; exact c1⟩
    · rw [fin r r0 r1 c] at hf ⊢
      have f := d5 r r0 r1 hf
      have fx : ¬ fi r = x := fun z => by
        rw [z] at f
        exact c ⟨f.2.2, f.2.1.symm⟩
      refine ⟨⟨f.1, fx⟩, f.2.1, ?_⟩
      rw [ben (fi r) f.1 (fun z => ?_)]
      · exact f.2.2
      · have := (d4 x wx z.1).2.1
        rw [← z.2, f.2.2] at this
        have := (d1 x wx).1
        omega
theorem DL_add {N : Int} {co ne be fi be' : Int → Int} {W : Int → Prop} {ts : Int → Int} {clk x c : Int} (hN : N ≤ 32768) (D : DL N co ne be fi W ts clk) (wx : ¬ W x) (hx : 0 ≤ x ∧ x < N) (hc : 0 ≤ c)
    (b1 : fi (c % 51) = -1 → be' = uu_ be x (-1)) (b2 : ¬ fi (c % 51) = -1 → be' = uu_ (uu_ be x (-1)) (fi (c % 51)) x) :
    DL N (uu_ co x c) (uu_ ne x (fi (c % 51))) be' (uu_ fi (c % 51) x) (fun y => W y ∨ y = x) (fun y => if y = x then clk else ts y) (clk + 1) := by
  obtain ⟨d1, d2, d3, d4, d5, d6⟩ := D
  have r51 : 0 ≤ c % 51 ∧ c % 51 < 51 := by omega
  have ny : ∀ y, W y → ¬ y = x := fun y wy z => wx (by rw [← z]; exact wy)
  have coo : ∀ y, W y → uu_ co x c y = co y := fun y wy => uu_ne (by omega) (by have := d1 y wy; omega) (ny y wy)
  have nee : ∀ y, W y → uu_ ne x (fi (c % 51)) y = ne y := fun y wy => uu_ne (by omega) (by have := d1 y wy; omega) (ny y wy)
  have fii : ∀ r, 0 ≤ r → r < 51 → ¬ r = c % 51 → uu_ fi (c % 51) x r = fi r := fun r r0 r1 z => uu_ne (by omega) (by omega) z
  have bex : be' x = -1 := by
    by_cases z : fi (c % 51) = -1
    · rw [b1 z, uu_eq]
    · have f := d5 _ r51.1 r51.2 z
      rw [b2 z, uu_ne (by have := d1 _ f.1; omega) (by omega) (fun y => ny _ f.1 y.symm), uu_eq]
  have ben : ∀ y, W y → ¬ (¬ fi (c % 51) = -1 ∧ y = fi (c % 51)) → be' y = be y := by
    intro y wy n
    have ry := d1 y wy
    by_cases z : fi (c % 51) = -1
    · rw [b1 z, uu_ne (by omega) (by omega) (ny y wy)]
    · have f := d5 _ r51.1 r51.2 z
      rw [b2 z, uu_ne (by have := d1 _ f.1; omega) (by omega) (fun q => n ⟨z, q⟩), uu_ne (by omega) (by omega) (ny y wy)]
  have bef : ¬ fi (c % 51) = -1 → be' (fi (c % 51)) = x := fun z => by rw [b2 z, uu_eq]
  refine ⟨fun y hy => ?_, fun y hy hb => ?_, fun y hy hb => ?_, fun y hy hn => ?_, fun r r0 r1 hf => ?_, fun y hy => ?_⟩
  · rcases hy with hy | rfl
    · rw [coo y hy]; exact d1 y hy
    · rw [uu_eq]; exact ⟨hx, hc⟩
  · rcases hy with hy | rfl
    · rw [coo y hy]
      have ry := d1 y hy
      by_cases z : ¬ fi (c % 51) = -1 ∧ y = fi (c % 51)
      · rw [z.2, bef z.1] at hb; omega
      · rw [ben y hy z] at hb
        have f := d2 y hy hb
        rw [fii _ (by omega) (by omega) (fun q => ?_)]
        · exact f
        · rw [q] at f
          exact z ⟨by omega, f.symm⟩
    · rw [uu_eq, uu_eq]
  · rcases hy with hy | rfl
    · by_cases z : ¬ fi (c % 51) = -1 ∧ y = fi (c % 51)
      · have f := d5 _ r51.1 r51.2 z.1
        rw [coo y hy, z.2, bef z.1]
        refine ⟨Or.inr rfl, uu_eq _ _ _, ?_, ?_⟩
        · rw [uu_eq, f.2.1]
        · dsimp only
          rw [if_neg (ny _ f.1), if_pos rfl]
          exact d6 _ f.1
      · have e := ben y hy z
        rw [e] at hb ⊢
        have b := d3 y hy hb
        rw [coo y hy, coo _ b.1, nee _ b.1]
        dsimp only
        rw [if_neg (ny y hy), if_neg (ny _ b.1)]
        exact ⟨Or.inl b.1, b.2⟩
    · exact absurd bex hb
  · rcases hy with hy | rfl
    · rw [nee y hy] at hn ⊢
      have a := d4 y hy hn
      rw [coo y hy, coo _ a.1, ben _ a.1 (fun z => ?_)]
      · exact ⟨Or.inl a.1, a.2⟩
      · have f := d5 _ r51.1 r51.2 z.1
        have := a.2.1
        rw [z.2, f.2.2] at this
        have := d1 y hy
        omega
    · rw [uu_eq] at hn ⊢
      have f := d5 _ r51.1 r51.2 hn
      rw [coo _ f.1, uu_eq]
      exact ⟨Or.inl f.1, bef hn, f.2.1⟩
  · by_cases z : r = c % 51
    · subst z
      rw [uu_eq]
      refine ⟨Or.inr rfl, by rw [uu_eq], bex⟩
    · rw [fii r r0 r1 z] at hf ⊢
      have f := d5 r r0 r1 hf
      rw [coo _ f.1, ben _ f.1 (fun q => ?_)]
      · exact ⟨Or.inl f.1, f.2⟩
      · have g := d5 _ r51.1 r51.2 q.1
        rw [q.2, g.2.1] at f
        exact z f.2.1.symm
  · dsimp only
    rcases hy with hy | rfl
    · rw [if_neg (ny y hy)]; have := d6 y hy; omega
    · rw [if_pos rfl]; omega
/-- an empty row: nobody waits there -/
theorem DL_empty {N : Int} {co ne be fi : Int → Int} {W : Int → Prop} {ts : Int → Int} {clk r : Int} (D : DL N co ne be fi W ts clk) (e : fi r = -1) : ∀ (n : Nat) (x : Int), W x → clk - ts x ≤ n → ¬ co x % 51 = r := by
  obtain ⟨d1, d2, d3, d4, d5, d6⟩ := D
  intro n
  induction n with
  | zero => intro x wx h; have := d6 x wx; omega
  | succ n ih =>
    intro x wx h z
    by_cases c : be x = -1
    · have := d2 x wx c
      rw [z, e] at this
      have := d1 x wx
      omega
    · have b := d3 x wx c
      exact ih (be x) b.1 (by omega) (by rw [b.2.2.1]; exact z)
