set_option maxRecDepth 100000 in
theorem cl_lay0 : ((u_ws "OutwardDoors$CastleReader" gT0 3).all fun w => decide (w ∈ gtb) && goodWord w) = true := by decide +kernel
theorem cl_nm0 : ∀ a, a < 3 → ∀ b, b < 3 → a ≠ b → (gT0 a).2.1 ≠ (gT0 b).2.1 := by decide +kernel
theorem cl_ty0 : ∀ k, k < 3 → parseFieldDescriptor (gT0 k).2.2.1 = some (gY0 k) := by decide +kernel
theorem cl_tc0 : ∀ k, k < 3 → tcode (gY0 k) ≠ 9 := by decide +kernel
set_option maxRecDepth 100000 in
theorem cl_lay1 : ((u_ws "OutwardDoors$Mover" gT1 7).all fun w => decide (w ∈ gtb) && goodWord w) = true := by decide +kernel
theorem cl_nm1 : ∀ a, a < 7 → ∀ b, b < 7 → a ≠ b → (gT1 a).2.1 ≠ (gT1 b).2.1 := by decide +kernel
theorem cl_ty1 : ∀ k, k < 7 → parseFieldDescriptor (gT1 k).2.2.1 = some (gY1 k) := by decide +kernel
theorem cl_tc1 : ∀ k, k < 7 → tcode (gY1 k) ≠ 9 := by decide +kernel
set_option maxRecDepth 100000 in
theorem cl_lay2 : ((u_ws "OutwardDoors$Plan" gT2 16).all fun w => decide (w ∈ gtb) && goodWord w) = true := by decide +kernel
theorem cl_nm2 : ∀ a, a < 16 → ∀ b, b < 16 → a ≠ b → (gT2 a).2.1 ≠ (gT2 b).2.1 := by decide +kernel
theorem cl_ty2 : ∀ k, k < 16 → parseFieldDescriptor (gT2 k).2.2.1 = some (gY2 k) := by decide +kernel
theorem cl_tc2 : ∀ k, k < 16 → tcode (gY2 k) ≠ 9 := by decide +kernel
set_option maxRecDepth 100000 in
theorem cl_lay3 : ((u_ws "OutwardDoors$Pricer" gT3 10).all fun w => decide (w ∈ gtb) && goodWord w) = true := by decide +kernel
theorem cl_nm3 : ∀ a, a < 10 → ∀ b, b < 10 → a ≠ b → (gT3 a).2.1 ≠ (gT3 b).2.1 := by decide +kernel
theorem cl_ty3 : ∀ k, k < 10 → parseFieldDescriptor (gT3 k).2.2.1 = some (gY3 k) := by decide +kernel
theorem cl_tc3 : ∀ k, k < 10 → tcode (gY3 k) ≠ 9 := by decide +kernel
set_option maxRecDepth 100000 in
theorem cl_lay4 : ((u_ws "OutwardDoors$Rule" gT4 6).all fun w => decide (w ∈ gtb) && goodWord w) = true := by decide +kernel
theorem cl_nm4 : ∀ a, a < 6 → ∀ b, b < 6 → a ≠ b → (gT4 a).2.1 ≠ (gT4 b).2.1 := by decide +kernel
theorem cl_ty4 : ∀ k, k < 6 → parseFieldDescriptor (gT4 k).2.2.1 = some (gY4 k) := by decide +kernel
theorem cl_tc4 : ∀ k, k < 6 → tcode (gY4 k) ≠ 9 := by decide +kernel
set_option maxRecDepth 100000 in
theorem cl_lay5 : ((u_ws "OutwardDoors$RuleReader" gT5 3).all fun w => decide (w ∈ gtb) && goodWord w) = true := by decide +kernel
theorem cl_nm5 : ∀ a, a < 3 → ∀ b, b < 3 → a ≠ b → (gT5 a).2.1 ≠ (gT5 b).2.1 := by decide +kernel
theorem cl_ty5 : ∀ k, k < 3 → parseFieldDescriptor (gT5 k).2.2.1 = some (gY5 k) := by decide +kernel
theorem cl_tc5 : ∀ k, k < 3 → tcode (gY5 k) ≠ 9 := by decide +kernel
set_option maxRecDepth 100000 in
theorem cl_lay6 : ((u_ws "OutwardDoors$Scene" gT6 9).all fun w => decide (w ∈ gtb) && goodWord w) = true := by decide +kernel
theorem cl_nm6 : ∀ a, a < 9 → ∀ b, b < 9 → a ≠ b → (gT6 a).2.1 ≠ (gT6 b).2.1 := by decide +kernel
theorem cl_ty6 : ∀ k, k < 9 → parseFieldDescriptor (gT6 k).2.2.1 = some (gY6 k) := by decide +kernel
theorem cl_tc6 : ∀ k, k < 9 → tcode (gY6 k) ≠ 9 := by decide +kernel
set_option maxRecDepth 100000 in
theorem cl_lay7 : ((u_ws "OutwardDoors$Search" gT7 8).all fun w => decide (w ∈ gtb) && goodWord w) = true := by decide +kernel
theorem cl_nm7 : ∀ a, a < 8 → ∀ b, b < 8 → a ≠ b → (gT7 a).2.1 ≠ (gT7 b).2.1 := by decide +kernel
theorem cl_ty7 : ∀ k, k < 8 → parseFieldDescriptor (gT7 k).2.2.1 = some (gY7 k) := by decide +kernel
theorem cl_tc7 : ∀ k, k < 8 → tcode (gY7 k) ≠ 9 := by decide +kernel
set_option maxRecDepth 100000 in
theorem cl_lay8 : ((u_ws "OutwardDoors$Tape" gT8 7).all fun w => decide (w ∈ gtb) && goodWord w) = true := by decide +kernel
theorem cl_nm8 : ∀ a, a < 7 → ∀ b, b < 7 → a ≠ b → (gT8 a).2.1 ≠ (gT8 b).2.1 := by decide +kernel
theorem cl_ty8 : ∀ k, k < 7 → parseFieldDescriptor (gT8 k).2.2.1 = some (gY8 k) := by decide +kernel
theorem cl_tc8 : ∀ k, k < 7 → tcode (gY8 k) ≠ 9 := by decide +kernel
set_option maxRecDepth 100000 in
theorem cl_lay9 : ((u_ws "OutwardDoors$World" gT9 6).all fun w => decide (w ∈ gtb) && goodWord w) = true := by decide +kernel
theorem cl_nm9 : ∀ a, a < 6 → ∀ b, b < 6 → a ≠ b → (gT9 a).2.1 ≠ (gT9 b).2.1 := by decide +kernel
theorem cl_ty9 : ∀ k, k < 6 → parseFieldDescriptor (gT9 k).2.2.1 = some (gY9 k) := by decide +kernel
theorem cl_tc9 : ∀ k, k < 6 → tcode (gY9 k) ≠ 9 := by decide +kernel
set_option maxRecDepth 100000 in
theorem cl_lay10 : ((u_ws "OutwardDoors" gT10 16).all fun w => decide (w ∈ gtb) && goodWord w) = true := by decide +kernel
theorem cl_nm10 : ∀ a, a < 16 → ∀ b, b < 16 → a ≠ b → (gT10 a).2.1 ≠ (gT10 b).2.1 := by decide +kernel
theorem cl_ty10 : ∀ k, k < 16 → parseFieldDescriptor (gT10 k).2.2.1 = some (gY10 k) := by decide +kernel
theorem cl_tc10 : ∀ k, k < 16 → tcode (gY10 k) ≠ 9 := by decide +kernel
set_option maxRecDepth 100000 in
theorem cl_lay11 : ((u_ws "OutwardDoorsModel" gT11 44).all fun w => decide (w ∈ gtb) && goodWord w) = true := by decide +kernel
theorem cl_nm11 : ∀ a, a < 44 → ∀ b, b < 44 → a ≠ b → (gT11 a).2.1 ≠ (gT11 b).2.1 := by decide +kernel
theorem cl_ty11 : ∀ k, k < 44 → parseFieldDescriptor (gT11 k).2.2.1 = some (gY11 k) := by decide +kernel
theorem cl_tc11 : ∀ k, k < 44 → tcode (gY11 k) ≠ 9 := by decide +kernel
theorem lay_in {l : List Cond} (h : (l.all fun w => decide (w ∈ gtb) && goodWord w) = true) : ∀ w ∈ l, w ∈ gws := by
  intro w hw
  have := List.all_eq_true.mp h w hw
  simp only [Bool.and_eq_true, decide_eq_true_eq] at this
  exact List.mem_filter.mpr this
theorem CL_lay {c : Nat} {q : vw_C} (h : CL[c]? = some q) : ∀ w ∈ u_ws q.1 q.2.1 q.2.2, w ∈ gws := by
  match c, h with
  | 0, h => cases h; exact lay_in cl_lay0
  | 1, h => cases h; exact lay_in cl_lay1
  | 2, h => cases h; exact lay_in cl_lay2
  | 3, h => cases h; exact lay_in cl_lay3
  | 4, h => cases h; exact lay_in cl_lay4
  | 5, h => cases h; exact lay_in cl_lay5
  | 6, h => cases h; exact lay_in cl_lay6
  | 7, h => cases h; exact lay_in cl_lay7
  | 8, h => cases h; exact lay_in cl_lay8
  | 9, h => cases h; exact lay_in cl_lay9
  | 10, h => cases h; exact lay_in cl_lay10
  | 11, h => cases h; exact lay_in cl_lay11
  | k + 12, h => simp [CL] at h
theorem CL_nm {c : Nat} {q : vw_C} (h : CL[c]? = some q) : ∀ a, a < q.2.2 → ∀ b, b < q.2.2 → a ≠ b → (q.2.1 a).2.1 ≠ (q.2.1 b).2.1 := by
  match c, h with
  | 0, h => cases h; exact cl_nm0
  | 1, h => cases h; exact cl_nm1
  | 2, h => cases h; exact cl_nm2
  | 3, h => cases h; exact cl_nm3
  | 4, h => cases h; exact cl_nm4
  | 5, h => cases h; exact cl_nm5
  | 6, h => cases h; exact cl_nm6
  | 7, h => cases h; exact cl_nm7
  | 8, h => cases h; exact cl_nm8
  | 9, h => cases h; exact cl_nm9
  | 10, h => cases h; exact cl_nm10
  | 11, h => cases h; exact cl_nm11
  | k + 12, h => simp [CL] at h
theorem CL_ty {c : Nat} {q : vw_C} (h : CL[c]? = some q) : ∀ k, k < q.2.2 → parseFieldDescriptor (q.2.1 k).2.2.1 = some (gY c k) := by
  match c, h with
  | 0, h => cases h; exact cl_ty0
  | 1, h => cases h; exact cl_ty1
  | 2, h => cases h; exact cl_ty2
  | 3, h => cases h; exact cl_ty3
  | 4, h => cases h; exact cl_ty4
  | 5, h => cases h; exact cl_ty5
  | 6, h => cases h; exact cl_ty6
  | 7, h => cases h; exact cl_ty7
  | 8, h => cases h; exact cl_ty8
  | 9, h => cases h; exact cl_ty9
  | 10, h => cases h; exact cl_ty10
  | 11, h => cases h; exact cl_ty11
  | k + 12, h => simp [CL] at h
theorem CL_tc {c : Nat} {q : vw_C} (h : CL[c]? = some q) : ∀ k, k < q.2.2 → tcode (gY c k) ≠ 9 := by
  match c, h with
  | 0, h => cases h; exact cl_tc0
  | 1, h => cases h; exact cl_tc1
  | 2, h => cases h; exact cl_tc2
  | 3, h => cases h; exact cl_tc3
  | 4, h => cases h; exact cl_tc4
  | 5, h => cases h; exact cl_tc5
  | 6, h => cases h; exact cl_tc6
  | 7, h => cases h; exact cl_tc7
  | 8, h => cases h; exact cl_tc8
  | 9, h => cases h; exact cl_tc9
  | 10, h => cases h; exact cl_tc10
  | 11, h => cases h; exact cl_tc11
  | k + 12, h => simp [CL] at h
theorem CL_N {c : Nat} {q : vw_C} (h : CL[c]? = some q) : q.2.2 = gN c := by
  match c, h with
  | 0, h => cases h; exact rfl
  | 1, h => cases h; exact rfl
  | 2, h => cases h; exact rfl
  | 3, h => cases h; exact rfl
  | 4, h => cases h; exact rfl
  | 5, h => cases h; exact rfl
  | 6, h => cases h; exact rfl
  | 7, h => cases h; exact rfl
  | 8, h => cases h; exact rfl
  | 9, h => cases h; exact rfl
  | 10, h => cases h; exact rfl
  | 11, h => cases h; exact rfl
  | k + 12, h => simp [CL] at h
