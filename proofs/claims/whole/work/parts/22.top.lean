def h00 : AH := ((0, 0, fun _ => (0, 999)), fun _ _ => 0, fun _ _ => 0, fun _ _ => none)
/-- THE LAW ON THE SMALL MACHINE: what is left to prove -/
def LawRuns : Prop := ∀ (L : Nat) (xs : Nat → Int32), L ≤ 3072 → Ex ((L, xs), X2) PG 300 290 0 [some (.retAddr SCR), none, none, none] [] h00 (fun r h' => r = some (.int 1) ∧ hn h' ≤ 600000 ∧ hz h' ≤ 7302250)
set_option maxHeartbeats 4000000 in
theorem start_of {p : Program} {e : Env} {s : State} {m : MethodId} {below : List Frame} {meth : Method} {c : Code} (l : Launch) {b L : Nat} {xs : Nat → Int32} (hrun : LawRuns) (hL : L ≤ 3072) (C0 : lw_At p s m meth c b L xs) : W p l e room_1 s m #[Value.ref b] below meth c s.heap [] 0 0 (lw_Z below #[Value.ref b] s) (entryFrame m ([Value.ref b] : List Value).toArray 4) := by
  obtain ⟨hx, hb, hr, hml, hown, hts, hX, hbl, hlocks, hgv⟩ := id C0
  obtain ⟨sa, cA, D, hsc, hES⟩ := ES_start hts hX hbl hgv
  obtain ⟨n, w⟩ := hrun L xs hL
  obtain ⟨r, h', ⟨rfl, hc1, hz1⟩, g, wk⟩ := wpn_both _ _ _ _ _ _ _ _ w
  have w' := wk n 300 (fun a b => a = some (.int 1) ∧ b = h') (Nat.le_refl _) (Nat.le_refl _) ⟨rfl, rfl⟩
  have hgw : ∀ w ∈ gws, w.before #[Value.ref b] s = true := fun w hw => gtb_hts hts w (List.mem_filter.mp hw).1
  have hl := ent_has (B := s.heap.size) (sa := sa) (n := 4) (As := [.retAddr SCR]) (by decide)
  have hb0 : ([.retAddr SCR] : List Value).map (cv s.heap.size sa) = [.ref b] := by simp [cv, hsc]
  rw [hb0] at hl
  rw [lg_entry_eq]
  refine walk rows_ok mth_ok n 300 290 0 _ [] h00 (some (.int 1)) h' (({ cls := "OutwardDoorsLaw", name := "law", desc := "([I)Z" } : Jvm.MethodName), code, 4, some .boolean) rfl w' (n0 := 0) (cells := 0) (slots := 0) (locs := []) ⟨hx, hb, hml, hown, hgw, fun h => absurd h (by decide), ⟨by decide, by decide⟩, hES, rfl⟩ rfl ⟨fun k q hk => by simp [RL, h00, hn] at hk, fun k hk => absurd hk (Nat.not_lt_zero k), fun k _ => rfl⟩ va_S.rf hl ⟨by decide, by decide⟩ ⟨by show hn h' ≤ 0 + 600000; omega, by show 0 + (hz h' - 0) ≤ 7302250; omega⟩ ?_
  intro pc1 H1 locs1 cells1 slots1 ls1 st hret hc2 hs2 hW1 hS1
  have hz0 : hz h00 = 0 := rfl
  rcases hret with ⟨x, hxe, rfl, hd, hrt⟩ | ⟨x, hxe, -⟩ | ⟨v, a, rt, hxe, hva, -, -, hrt, hrk⟩ | ⟨hxe, -⟩
  · cases hxe
    refine va_forget (fun q hq => hS1.2.2 q hq) ?_
    refine W.widen (k := 600000) (n := 7302250) (by omega) (by omega) ?_
    exact lw_ret hx hb hr hlocks hd
  · cases hxe
  · cases hxe
    cases hva
  · cases hxe
