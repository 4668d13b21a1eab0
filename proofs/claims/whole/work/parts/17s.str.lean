abbrev qS_coder : MethodName × ByteArray × Nat × Option FieldType := (({ cls := "java/lang/String", name := "coder", desc := "()B" } : Jvm.MethodName), prog_17_method_152_code, 1, (Option.some Jvm.ClassFile.FieldType.byte))
set_option maxRecDepth 100000 in
theorem wS_coder : Cond.code qS_coder.1 qS_coder.2.1 qS_coder.2.2.1 qS_coder.2.2.2 ∈ gws := wat_in (p := 665) (by decide +kernel)
theorem dS_coder_0 : decode qS_coder.2.1 0 = .ok (.getstatic (38), 3) := by decide +kernel
theorem dS_coder_3 : decode qS_coder.2.1 3 = .ok (.ifCond .eq (10), 3) := by decide +kernel
theorem dS_coder_6 : decode qS_coder.2.1 6 = .ok (.aload_n (0), 1) := by decide +kernel
theorem dS_coder_7 : decode qS_coder.2.1 7 = .ok (.getfield (15), 3) := by decide +kernel
theorem dS_coder_10 : decode qS_coder.2.1 10 = .ok (.goto (4), 3) := by decide +kernel
theorem dS_coder_13 : decode qS_coder.2.1 13 = .ok (.iconst (1), 1) := by decide +kernel
theorem dS_coder_14 : decode qS_coder.2.1 14 = .ok (.ireturn, 1) := by decide +kernel
abbrev qS_length : MethodName × ByteArray × Nat × Option FieldType := (({ cls := "java/lang/String", name := "length", desc := "()I" } : Jvm.MethodName), prog_17_method_54_code, 1, (Option.some Jvm.ClassFile.FieldType.int))
set_option maxRecDepth 100000 in
theorem wS_length : Cond.code qS_length.1 qS_length.2.1 qS_length.2.2.1 qS_length.2.2.2 ∈ gws := wat_in (p := 661) (by decide +kernel)
theorem dS_length_0 : decode qS_length.2.1 0 = .ok (.aload_n (0), 1) := by decide +kernel
theorem dS_length_1 : decode qS_length.2.1 1 = .ok (.getfield (9), 3) := by decide +kernel
theorem dS_length_4 : decode qS_length.2.1 4 = .ok (.arraylength, 1) := by decide +kernel
theorem dS_length_5 : decode qS_length.2.1 5 = .ok (.aload_n (0), 1) := by decide +kernel
theorem dS_length_6 : decode qS_length.2.1 6 = .ok (.invokevirtual (335), 3) := by decide +kernel
theorem dS_length_9 : decode qS_length.2.1 9 = .ok (.ishr, 1) := by decide +kernel
theorem dS_length_10 : decode qS_length.2.1 10 = .ok (.ireturn, 1) := by decide +kernel
abbrev qS_charAt : MethodName × ByteArray × Nat × Option FieldType := (({ cls := "java/lang/String", name := "charAt", desc := "(I)C" } : Jvm.MethodName), prog_17_method_56_code, 2, (Option.some Jvm.ClassFile.FieldType.char))
set_option maxRecDepth 100000 in
theorem wS_charAt : Cond.code qS_charAt.1 qS_charAt.2.1 qS_charAt.2.2.1 qS_charAt.2.2.2 ∈ gws := wat_in (p := 671) (by decide +kernel)
theorem dS_charAt_0 : decode qS_charAt.2.1 0 = .ok (.aload_n (0), 1) := by decide +kernel
theorem dS_charAt_1 : decode qS_charAt.2.1 1 = .ok (.invokevirtual (492), 3) := by decide +kernel
theorem dS_charAt_4 : decode qS_charAt.2.1 4 = .ok (.ifCond .eq (12), 3) := by decide +kernel
theorem dS_charAt_7 : decode qS_charAt.2.1 7 = .ok (.aload_n (0), 1) := by decide +kernel
theorem dS_charAt_8 : decode qS_charAt.2.1 8 = .ok (.getfield (9), 3) := by decide +kernel
theorem dS_charAt_11 : decode qS_charAt.2.1 11 = .ok (.iload_n (1), 1) := by decide +kernel
theorem dS_charAt_12 : decode qS_charAt.2.1 12 = .ok (.invokestatic (495), 3) := by decide +kernel
theorem dS_charAt_15 : decode qS_charAt.2.1 15 = .ok (.ireturn, 1) := by decide +kernel
theorem dS_charAt_16 : decode qS_charAt.2.1 16 = .ok (.aload_n (0), 1) := by decide +kernel
theorem dS_charAt_17 : decode qS_charAt.2.1 17 = .ok (.getfield (9), 3) := by decide +kernel
theorem dS_charAt_20 : decode qS_charAt.2.1 20 = .ok (.iload_n (1), 1) := by decide +kernel
theorem dS_charAt_21 : decode qS_charAt.2.1 21 = .ok (.invokestatic (498), 3) := by decide +kernel
theorem dS_charAt_24 : decode qS_charAt.2.1 24 = .ok (.ireturn, 1) := by decide +kernel
abbrev qS_isLat : MethodName × ByteArray × Nat × Option FieldType := (({ cls := "java/lang/String", name := "isLatin1", desc := "()Z" } : Jvm.MethodName), prog_17_method_154_code, 1, (Option.some Jvm.ClassFile.FieldType.boolean))
set_option maxRecDepth 100000 in
theorem wS_isLat : Cond.code qS_isLat.1 qS_isLat.2.1 qS_isLat.2.2.1 qS_isLat.2.2.2 ∈ gws := wat_in (p := 675) (by decide +kernel)
theorem dS_isLat_0 : decode qS_isLat.2.1 0 = .ok (.getstatic (38), 3) := by decide +kernel
theorem dS_isLat_3 : decode qS_isLat.2.1 3 = .ok (.ifCond .eq (14), 3) := by decide +kernel
theorem dS_isLat_6 : decode qS_isLat.2.1 6 = .ok (.aload_n (0), 1) := by decide +kernel
theorem dS_isLat_7 : decode qS_isLat.2.1 7 = .ok (.getfield (15), 3) := by decide +kernel
theorem dS_isLat_10 : decode qS_isLat.2.1 10 = .ok (.ifCond .ne (7), 3) := by decide +kernel
theorem dS_isLat_13 : decode qS_isLat.2.1 13 = .ok (.iconst (1), 1) := by decide +kernel
theorem dS_isLat_14 : decode qS_isLat.2.1 14 = .ok (.goto (4), 3) := by decide +kernel
theorem dS_isLat_17 : decode qS_isLat.2.1 17 = .ok (.iconst (0), 1) := by decide +kernel
theorem dS_isLat_18 : decode qS_isLat.2.1 18 = .ok (.ireturn, 1) := by decide +kernel
abbrev qS_latAt : MethodName × ByteArray × Nat × Option FieldType := (({ cls := "java/lang/StringLatin1", name := "charAt", desc := "([BI)C" } : Jvm.MethodName), prog_18_method_2_code, 2, (Option.some Jvm.ClassFile.FieldType.char))
set_option maxRecDepth 100000 in
theorem wS_latAt : Cond.code qS_latAt.1 qS_latAt.2.1 qS_latAt.2.2.1 qS_latAt.2.2.2 ∈ gws := wat_in (p := 678) (by decide +kernel)
theorem dS_latAt_0 : decode qS_latAt.2.1 0 = .ok (.iload_n (1), 1) := by decide +kernel
theorem dS_latAt_1 : decode qS_latAt.2.1 1 = .ok (.aload_n (0), 1) := by decide +kernel
theorem dS_latAt_2 : decode qS_latAt.2.1 2 = .ok (.arraylength, 1) := by decide +kernel
theorem dS_latAt_3 : decode qS_latAt.2.1 3 = .ok (.invokestatic (9), 3) := by decide +kernel
theorem dS_latAt_6 : decode qS_latAt.2.1 6 = .ok (.aload_n (0), 1) := by decide +kernel
theorem dS_latAt_7 : decode qS_latAt.2.1 7 = .ok (.iload_n (1), 1) := by decide +kernel
theorem dS_latAt_8 : decode qS_latAt.2.1 8 = .ok (.baload, 1) := by decide +kernel
theorem dS_latAt_9 : decode qS_latAt.2.1 9 = .ok (.sipush (255), 3) := by decide +kernel
theorem dS_latAt_12 : decode qS_latAt.2.1 12 = .ok (.iand, 1) := by decide +kernel
theorem dS_latAt_13 : decode qS_latAt.2.1 13 = .ok (.i2c, 1) := by decide +kernel
theorem dS_latAt_14 : decode qS_latAt.2.1 14 = .ok (.ireturn, 1) := by decide +kernel
abbrev qS_chk : MethodName × ByteArray × Nat × Option FieldType := (({ cls := "java/lang/String", name := "checkIndex", desc := "(II)V" } : Jvm.MethodName), prog_17_method_155_code, 2, (Option.none : Option Jvm.ClassFile.FieldType))
set_option maxRecDepth 100000 in
theorem wS_chk : Cond.code qS_chk.1 qS_chk.2.1 qS_chk.2.2.1 qS_chk.2.2.2 ∈ gws := wat_in (p := 681) (by decide +kernel)
theorem dS_chk_0 : decode qS_chk.2.1 0 = .ok (.iload_n (0), 1) := by decide +kernel
theorem dS_chk_1 : decode qS_chk.2.1 1 = .ok (.iload_n (1), 1) := by decide +kernel
theorem dS_chk_2 : decode qS_chk.2.1 2 = .ok (.getstatic (1053), 3) := by decide +kernel
theorem dS_chk_5 : decode qS_chk.2.1 5 = .ok (.invokestatic (1059), 3) := by decide +kernel
theorem dS_chk_8 : decode qS_chk.2.1 8 = .ok (.pop, 1) := by decide +kernel
theorem dS_chk_9 : decode qS_chk.2.1 9 = .ok (.return_, 1) := by decide +kernel
abbrev qS_pre : MethodName × ByteArray × Nat × Option FieldType := (({ cls := "jdk/internal/util/Preconditions", name := "checkIndex", desc := "(IILjava/util/function/BiFunction;)I" } : Jvm.MethodName), prog_22_method_11_code, 3, (Option.some Jvm.ClassFile.FieldType.int))
set_option maxRecDepth 100000 in
theorem wS_pre : Cond.code qS_pre.1 qS_pre.2.1 qS_pre.2.2.1 qS_pre.2.2.2 ∈ gws := wat_in (p := 686) (by decide +kernel)
theorem dS_pre_0 : decode qS_pre.2.1 0 = .ok (.iload_n (0), 1) := by decide +kernel
theorem dS_pre_1 : decode qS_pre.2.1 1 = .ok (.ifCond .lt (8), 3) := by decide +kernel
theorem dS_pre_4 : decode qS_pre.2.1 4 = .ok (.iload_n (0), 1) := by decide +kernel
theorem dS_pre_5 : decode qS_pre.2.1 5 = .ok (.iload_n (1), 1) := by decide +kernel
theorem dS_pre_6 : decode qS_pre.2.1 6 = .ok (.if_icmp .lt (10), 3) := by decide +kernel
theorem dS_pre_9 : decode qS_pre.2.1 9 = .ok (.aload_n (2), 1) := by decide +kernel
theorem dS_pre_10 : decode qS_pre.2.1 10 = .ok (.iload_n (0), 1) := by decide +kernel
theorem dS_pre_11 : decode qS_pre.2.1 11 = .ok (.iload_n (1), 1) := by decide +kernel
theorem dS_pre_12 : decode qS_pre.2.1 12 = .ok (.invokestatic (95), 3) := by decide +kernel
theorem dS_pre_15 : decode qS_pre.2.1 15 = .ok (.athrow, 1) := by decide +kernel
theorem dS_pre_16 : decode qS_pre.2.1 16 = .ok (.iload_n (0), 1) := by decide +kernel
theorem dS_pre_17 : decode qS_pre.2.1 17 = .ok (.ireturn, 1) := by decide +kernel
set_option maxRecDepth 100000 in
theorem lS_cs : Cond.fieldLink "java/lang/String" 38 "java/lang/String" "COMPACT_STRINGS" "Z" ∈ gws := wat_in (p := 666) (by decide +kernel)
set_option maxRecDepth 100000 in
theorem lS_co : Cond.fieldLink "java/lang/String" 15 "java/lang/String" "coder" "B" ∈ gws := wat_in (p := 1984) (by decide +kernel)
set_option maxRecDepth 100000 in
theorem lS_va : Cond.fieldLink "java/lang/String" 9 "java/lang/String" "value" "[B" ∈ gws := wat_in (p := 1983) (by decide +kernel)
set_option maxRecDepth 100000 in
theorem lS_si : Cond.fieldLink "java/lang/String" 1053 "jdk/internal/util/Preconditions" "SIOOBE_FORMATTER" "Ljava/util/function/BiFunction;" ∈ gws := wat_in (p := 682) (by decide +kernel)
set_option maxRecDepth 100000 in
theorem kS_coder : Cond.methodLink "java/lang/String" 335 ({ cls := "java/lang/String", name := "coder", desc := "()B" } : Jvm.MethodName) ∈ gws := wat_in (p := 662) (by decide +kernel)
set_option maxRecDepth 100000 in
theorem kS_isLat : Cond.methodLink "java/lang/String" 492 ({ cls := "java/lang/String", name := "isLatin1", desc := "()Z" } : Jvm.MethodName) ∈ gws := wat_in (p := 672) (by decide +kernel)
set_option maxRecDepth 100000 in
theorem kS_latAt : Cond.methodLink "java/lang/String" 495 ({ cls := "java/lang/StringLatin1", name := "charAt", desc := "([BI)C" } : Jvm.MethodName) ∈ gws := wat_in (p := 676) (by decide +kernel)
set_option maxRecDepth 100000 in
theorem kS_chk : Cond.methodLink "java/lang/StringLatin1" 9 ({ cls := "java/lang/String", name := "checkIndex", desc := "(II)V" } : Jvm.MethodName) ∈ gws := wat_in (p := 679) (by decide +kernel)
set_option maxRecDepth 100000 in
theorem kS_pre : Cond.methodLink "java/lang/String" 1059 ({ cls := "jdk/internal/util/Preconditions", name := "checkIndex", desc := "(IILjava/util/function/BiFunction;)I" } : Jvm.MethodName) ∈ gws := wat_in (p := 684) (by decide +kernel)
set_option maxRecDepth 100000 in
theorem iS_coder : Cond.instanceMethod qS_coder.1 ∈ gws := wat_in (p := 663) (by decide +kernel)
set_option maxRecDepth 100000 in
theorem sS_coder : Cond.selects "java/lang/String" qS_coder.1 qS_coder.1 ∈ gws := wat_in (p := 664) (by decide +kernel)
set_option maxRecDepth 100000 in
theorem iS_length : Cond.instanceMethod qS_length.1 ∈ gws := wat_in (p := 659) (by decide +kernel)
set_option maxRecDepth 100000 in
theorem sS_length : Cond.selects "java/lang/String" qS_length.1 qS_length.1 ∈ gws := wat_in (p := 660) (by decide +kernel)
set_option maxRecDepth 100000 in
theorem iS_charAt : Cond.instanceMethod qS_charAt.1 ∈ gws := wat_in (p := 669) (by decide +kernel)
set_option maxRecDepth 100000 in
theorem sS_charAt : Cond.selects "java/lang/String" qS_charAt.1 qS_charAt.1 ∈ gws := wat_in (p := 670) (by decide +kernel)
set_option maxRecDepth 100000 in
theorem iS_isLat : Cond.instanceMethod qS_isLat.1 ∈ gws := wat_in (p := 673) (by decide +kernel)
set_option maxRecDepth 100000 in
theorem sS_isLat : Cond.selects "java/lang/String" qS_isLat.1 qS_isLat.1 ∈ gws := wat_in (p := 674) (by decide +kernel)
set_option maxRecDepth 100000 in
theorem tS_latAt : Cond.static qS_latAt.1 ∈ gws := wat_in (p := 677) (by decide +kernel)
set_option maxRecDepth 100000 in
theorem tS_chk : Cond.static qS_chk.1 ∈ gws := wat_in (p := 680) (by decide +kernel)
set_option maxRecDepth 100000 in
theorem tS_pre : Cond.static qS_pre.1 ∈ gws := wat_in (p := 685) (by decide +kernel)
set_option maxRecDepth 100000 in
theorem nS_st : Cond.initialized "java/lang/String" ∈ gws := wat_in (p := 158) (by decide +kernel)
set_option maxRecDepth 100000 in
theorem nS_la : Cond.initialized "java/lang/StringLatin1" ∈ gws := wat_in (p := 159) (by decide +kernel)
set_option maxRecDepth 100000 in
theorem nS_pr : Cond.initialized "jdk/internal/util/Preconditions" ∈ gws := wat_in (p := 160) (by decide +kernel)
section S17s
variable {l : Launch} {B : Nat} {sa sV : Nat → Nat}
def PcS (B : Nat) (sa sV : Nat → Nat) (As : List Value) : Array Value → State → Prop := fun v U => v = As.toArray ∧ SZ B sa sV U
def rmS (f n : Nat) : Room := { frames := f, cells := 0, slots := 0, locals := n }
def QcNone : Array Value → State → Outcome → State → Prop := fun _ st o t => o = .returned none ∧ t.heap = st.heap
theorem PcS_blind {As : List Value} : FrameBlind (PcS B sa sV As) := by
  intro a U g mk ⟨q1, q2⟩
  exact ⟨q1, SZ.next (s := U) (U := U.calling g mk a) (H := U.heap) (locs := []) (Vm.Alike.refl U.vm) rfl va_S.rf q2⟩
theorem PcS_at {s : State} {H : Heap} {locs : List Loc} {As : List Value} (e : SZ B sa sV s) (hS : va_S (fun q => B ≤ q) s.heap H locs) : ∀ U : State, U.heap = H → s.WarmedH U.vm → PcS B sa sV As As.toArray U := fun U hU hW => ⟨rfl, e.next hW.alike hU hS⟩
section
variable {p : Program} {e : Env} {R : Room} {s : State} {m : MethodId} {args : Array Value} {below : List Frame} {meth : Method} {c : Code} {H : Heap} {locs : List Loc} {cells slots : Nat} {Q : State → Prop}
theorem W.callN {g : JFrame} {rest : List Value} {a : Array Value} (hr : CallRun p l e R s m args below meth c H locs cells slots 0 0 g rest (QcNone a) (fun _ => False)) (kk : W p l e R s m args below meth c H locs cells slots Q { g with pc := g.pc + 3, stack := rest }) : W p l e R s m args below meth c H locs cells slots Q g := by
  intro T hT Y
  obtain ⟨v, st₀, t, T', L, h0, Y', hL, e1, ⟨hv, hh⟩, st⟩ := hr T hT Y
  cases hv
  obtain ⟨t2, a1, b1⟩ := kk T' (by rw [e1, hh, h0]) (Stand.forget Y' (fun q h => (hL q h).elim))
  exact ⟨t2, st t2 a1, b1⟩
end
theorem narrow_c (x : Int32) : ((x &&& 255).toUInt32 % 65536).toInt32 = x &&& 255 ∧ narrow .char (.int (x &&& 255)) = .int (x &&& 255) := by
  obtain ⟨j, hj, e⟩ := pk_andE x (m := 255) 8 (by decide)
  rw [e]
  refine ⟨?_, (pk_charN (by omega)).1⟩
  rw [pk_char, pk_tn (by omega)]
  congr 1
  omega
set_option maxHeartbeats 4000000 in
theorem cS_coder {i : Nat} (hi : i < sNum) : Met l qS_coder.1 (wsM qS_coder) (rmS 1 20) (PcS B sa sV [.ref (sa i)]) (QcRead 0) 0 0 (fun _ => False) := by
  refine Met.ofW (cc := qS_coder.2.1) (maxL := qS_coder.2.2.1) (ret := qS_coder.2.2.2) (by decide) rfl ?_
  intro p e s m args below meth c s₁ Bd hml hv
  obtain ⟨rfl, hZ⟩ := hv
  have hts : ∀ w ∈ gws, w.before _ s = true := fun w hw => atoms_spec (ws := wsM qS_coder) Bd.pre w (List.mem_cons_of_mem _ hw)
  have hx := Bd.exec
  have hb := Bd.bytes
  have hr := Bd.returns
  have hlocks := Bd.notSynchronized
  have hown : s.vm.findClass "java/lang/String" = some m.cls := findClass_of_methodNamed Bd.named
  have hS : va_S (fun q => B ≤ q) s.heap s.heap [] := va_S.rf
  have hl := lv_entry ([.ref (sa i)]) (n := 1) (Nat.le_of_ble_eq_true rfl)
  rw [lg_entry_eq]
  generalize (lg_sl ([.ref (sa i)]) ++ List.replicate (1 - (lg_sl ([.ref (sa i)])).length) Slot.unset).toArray = ls at hl ⊢
  have hl : lv_has ls 1 [(0, .ref (sa i))] := hl
  refine va_gets hx hb hZ.2.1 hS hown (hts _ lS_cs) (fun _ h => h) dS_coder_0 ?_
  refine lv_if_eq (tgt := 13) hx hb dS_coder_3 (by decide) (fun q => absurd q (by decide)) (fun _ => ?_)
  refine lv_aload_n hx hb dS_coder_6 rfl (lv_at hl 0 rfl) ?_
  refine vk_getf hx hb (hZ.1 i hi).2.1 hS hown (hts _ lS_co) (fun _ h => h) dS_coder_7 ?_
  refine lv_goto (tgt := 14) hx hb dS_coder_10 (by decide) ?_
  exact W.zret hx hb hr (by decide) (fun t ht hWm => ⟨rfl, ht⟩) (fun q h => by cases h) dS_coder_14
set_option maxHeartbeats 4000000 in
theorem cS_isLat {i : Nat} (hi : i < sNum) : Met l qS_isLat.1 (wsM qS_isLat) (rmS 1 20) (PcS B sa sV [.ref (sa i)]) (QcRead 1) 0 0 (fun _ => False) := by
  refine Met.ofW (cc := qS_isLat.2.1) (maxL := qS_isLat.2.2.1) (ret := qS_isLat.2.2.2) (by decide) rfl ?_
  intro p e s m args below meth c s₁ Bd hml hv
  obtain ⟨rfl, hZ⟩ := hv
  have hts : ∀ w ∈ gws, w.before _ s = true := fun w hw => atoms_spec (ws := wsM qS_isLat) Bd.pre w (List.mem_cons_of_mem _ hw)
  have hx := Bd.exec
  have hb := Bd.bytes
  have hr := Bd.returns
  have hlocks := Bd.notSynchronized
  have hown : s.vm.findClass "java/lang/String" = some m.cls := findClass_of_methodNamed Bd.named
  have hS : va_S (fun q => B ≤ q) s.heap s.heap [] := va_S.rf
  have hl := lv_entry ([.ref (sa i)]) (n := 1) (Nat.le_of_ble_eq_true rfl)
  rw [lg_entry_eq]
  generalize (lg_sl ([.ref (sa i)]) ++ List.replicate (1 - (lg_sl ([.ref (sa i)])).length) Slot.unset).toArray = ls at hl ⊢
  have hl : lv_has ls 1 [(0, .ref (sa i))] := hl
  refine va_gets hx hb hZ.2.1 hS hown (hts _ lS_cs) (fun _ h => h) dS_isLat_0 ?_
  refine lv_if_eq (tgt := 17) hx hb dS_isLat_3 (by decide) (fun q => absurd q (by decide)) (fun _ => ?_)
  refine lv_aload_n hx hb dS_isLat_6 rfl (lv_at hl 0 rfl) ?_
  refine vk_getf hx hb (hZ.1 i hi).2.1 hS hown (hts _ lS_co) (fun _ h => h) dS_isLat_7 ?_
  refine lv_if_ne (tgt := 17) hx hb dS_isLat_10 (by decide) (fun q => absurd rfl q) (fun _ => ?_)
  refine lv_iconst (v := 1) hx hb dS_isLat_13 (by decide) ?_
  refine lv_goto (tgt := 18) hx hb dS_isLat_14 (by decide) ?_
  exact W.zret hx hb hr (by decide) (fun t ht hWm => ⟨rfl, ht⟩) (fun q h => by cases h) dS_isLat_18
set_option maxHeartbeats 4000000 in
theorem cS_length {i : Nat} (hi : i < sNum) (hlen : sLen.getD i 0 < 2 ^ 31) : Met l qS_length.1 (wsM qS_length) (rmS 2 60) (PcS B sa sV [.ref (sa i)]) (QcRead (nI (sLen.getD i 0))) 0 0 (fun _ => False) := by
  refine Met.ofW (cc := qS_length.2.1) (maxL := qS_length.2.2.1) (ret := qS_length.2.2.2) (by decide) rfl ?_
  intro p e s m args below meth c s₁ Bd hml hv
  obtain ⟨rfl, hZ⟩ := hv
  have hts : ∀ w ∈ gws, w.before _ s = true := fun w hw => atoms_spec (ws := wsM qS_length) Bd.pre w (List.mem_cons_of_mem _ hw)
  have hx := Bd.exec
  have hb := Bd.bytes
  have hr := Bd.returns
  have hlocks := Bd.notSynchronized
  have hown : s.vm.findClass "java/lang/String" = some m.cls := findClass_of_methodNamed Bd.named
  have hS : va_S (fun q => B ≤ q) s.heap s.heap [] := va_S.rf
  have hl := lv_entry ([.ref (sa i)]) (n := 1) (Nat.le_of_ble_eq_true rfl)
  rw [lg_entry_eq]
  generalize (lg_sl ([.ref (sa i)]) ++ List.replicate (1 - (lg_sl ([.ref (sa i)])).length) Slot.unset).toArray = ls at hl ⊢
  have hl : lv_has ls 1 [(0, .ref (sa i))] := hl
  refine lv_aload_n hx hb dS_length_0 rfl (lv_at hl 0 rfl) ?_
  refine vk_getf hx hb (hZ.1 i hi).2.2.1 hS hown (hts _ lS_va) (fun _ h => h) dS_length_1 ?_
  refine va_tlen hx hb (hZ.1 i hi).2.2.2 hS rfl dS_length_4 ?_
  refine lv_aload_n hx hb dS_length_5 rfl (lv_at hl 0 rfl) ?_
  refine W.callR (W.runV (C := "java/lang/String") (y := qS_coder.1) (bytes := qS_coder.2.1) (maxL := qS_coder.2.2.1) (ret := qS_coder.2.2.2) (ws := wsM qS_coder) (n := 0) (As := []) (rest := [.int (Int32.ofNat (sLen.getD i 0))]) ⟨hx, hb, hml, hown, hts⟩ (cS_coder hi) ⟨callB_of 0 hts (wsM_good wS_coder) rfl rfl rfl (hts _ nS_st) (hts _ kS_coder) (by decide) (by decide), hts _ iS_coder, hts _ sS_coder⟩ ⟨PcS_blind, hZ.1.recv hi hS, PcS_at hZ hS⟩ rfl rfl hl.1 rfl (lv_room (Nat.le_of_ble_eq_true rfl)) dS_length_6 ⟨Nat.zero_le _, Nat.zero_le _⟩) ?_
  refine lv_ishr hx hb dS_length_9 ?_
  have e0 : Int32.ofNat (sLen.getD i 0) >>> ((0 : Int32) &&& 31) = nI (sLen.getD i 0) := by
    rw [nI_ofNat, pk_shrN hlen ((0 : Int32) &&& 31) 0 (by decide)]
    simp
  rw [e0]
  exact W.iret hx hb hr (fun t ht hWm => ⟨rfl, ht⟩) (fun q h => by cases h) dS_length_10
set_option maxHeartbeats 4000000 in
theorem cS_pre {k : Int32} {n : Nat} (hn : n < 2 ^ 31) (hk : ix k n) {v : Value} (hv0 : v = .null ∨ ∃ a, v = .ref a) : Met l qS_pre.1 (wsM qS_pre) (rmS 1 20) (PcS B sa sV [.int k, .int (nI n), v]) (QcRead k) 0 0 (fun _ => False) := by
  refine Met.ofW (cc := qS_pre.2.1) (maxL := qS_pre.2.2.1) (ret := qS_pre.2.2.2) (by decide) rfl ?_
  intro p e s m args below meth c s₁ Bd hml hv
  obtain ⟨rfl, hZ⟩ := hv
  have hx := Bd.exec
  have hb := Bd.bytes
  have hr := Bd.returns
  have hlocks := Bd.notSynchronized
  have hcat : v.category = 1 := by rcases hv0 with rfl | ⟨a, rfl⟩ <;> rfl
  have hsl : lg_sl [.int k, .int (nI n), v] = [.val (.int k), .val (.int (nI n)), .val v] := by
    rcases hv0 with rfl | ⟨a, rfl⟩ <;> rfl
  have hl := lv_entry ([.int k, .int (nI n), v]) (n := 3) (by rw [hsl]; exact Nat.le_refl 3)
  rw [lg_entry_eq]
  generalize (lg_sl ([.int k, .int (nI n), v]) ++ List.replicate (3 - (lg_sl ([.int k, .int (nI n), v])).length) Slot.unset).toArray = ls at hl ⊢
  have h0 : ls[0]? = some (.val (.int k)) := hl.2.2 (0, .int k) List.mem_cons_self
  have h1 : ls[1]? = some (.val (.int (nI n))) := hl.2.2 (1, .int (nI n)) (List.mem_cons_of_mem _ List.mem_cons_self)
  obtain ⟨j, hj, rfl⟩ := vp_in_of hk hn
  refine lv_iload_n hx hb dS_pre_0 rfl h0 ?_
  refine lv_if_lt (tgt := 9) hx hb dS_pre_1 (by decide) (fun q => absurd q (nI_pos (by omega))) (fun _ => ?_)
  refine lv_iload_n hx hb dS_pre_4 rfl h0 ?_
  refine lv_iload_n hx hb dS_pre_5 rfl h1 ?_
  refine lv_icmp_lt (tgt := 16) hx hb dS_pre_6 (by decide) (fun _ => ?_) (fun q => absurd (nI_lt hj hn) q)
  refine lv_iload_n hx hb dS_pre_16 rfl h0 ?_
  exact W.iret hx hb hr (fun t ht hWm => ⟨rfl, ht⟩) (fun q h => by cases h) dS_pre_17
set_option maxHeartbeats 4000000 in
theorem cS_chk {k : Int32} {n : Nat} (hn : n < 2 ^ 31) (hk : ix k n) : Met l qS_chk.1 (wsM qS_chk) (rmS 2 60) (PcS B sa sV [.int k, .int (nI n)]) QcNone 0 0 (fun _ => False) := by
  refine Met.ofW (cc := qS_chk.2.1) (maxL := qS_chk.2.2.1) (ret := qS_chk.2.2.2) (by decide) rfl ?_
  intro p e s m args below meth c s₁ Bd hml hv
  obtain ⟨rfl, hZ⟩ := hv
  have hts : ∀ w ∈ gws, w.before _ s = true := fun w hw => atoms_spec (ws := wsM qS_chk) Bd.pre w (List.mem_cons_of_mem _ hw)
  have hx := Bd.exec
  have hb := Bd.bytes
  have hr := Bd.returns
  have hlocks := Bd.notSynchronized
  have hown : s.vm.findClass "java/lang/String" = some m.cls := findClass_of_methodNamed Bd.named
  have hS : va_S (fun q => B ≤ q) s.heap s.heap [] := va_S.rf
  have hl := lv_entry ([.int k, .int (nI n)]) (n := 2) (Nat.le_of_ble_eq_true rfl)
  rw [lg_entry_eq]
  generalize (lg_sl ([.int k, .int (nI n)]) ++ List.replicate (2 - (lg_sl ([.int k, .int (nI n)])).length) Slot.unset).toArray = ls at hl ⊢
  have hl : lv_has ls 2 [(0, .int k), (1, .int (nI n))] := hl
  refine lv_iload_n hx hb dS_chk_0 rfl (lv_at hl 0 rfl) ?_
  refine lv_iload_n hx hb dS_chk_1 rfl (lv_at hl 1 rfl) ?_
  have fin : ∀ v : Value, (v = .null ∨ ∃ a, v = .ref a) → W p l e (headSpec (wsM qS_chk) (rmS 2 60)).room s m ([Value.int k, .int (nI n)] : List Value).toArray below meth c s.heap [] 0 0 (MQ below QcNone ([Value.int k, .int (nI n)] : List Value).toArray s 0 0 fun _ => False) (F0 m (2 + 3) ls [v, .int (nI n), .int k]) := by
    intro v hv
    refine W.callR (W.runS (y := qS_pre.1) (bytes := qS_pre.2.1) (maxL := qS_pre.2.2.1) (ret := qS_pre.2.2.2) (ws := wsM qS_pre) (n := 3) (As := [.int k, .int (nI n), v]) (rest := []) ⟨hx, hb, hml, hown, hts⟩ (cS_pre hn hk hv) ⟨callB_of 3 hts (wsM_good wS_pre) rfl rfl rfl (hts _ nS_pr) (hts _ kS_pre) (by decide) (by decide), hts _ tS_pre⟩ ⟨PcS_blind, PcS_at hZ hS⟩ rfl rfl hl.1 rfl (lv_room (Nat.le_of_ble_eq_true rfl)) dS_chk_5 ⟨Nat.zero_le _, Nat.zero_le _⟩) ?_
    refine lv_pop hx hb dS_chk_8 rfl ?_
    exact W.vret hx hb hr (fun t ht hWm => ⟨rfl, ht⟩) (fun q h => by cases h) dS_chk_9
  rcases hZ.2.2 with hq | ⟨t, hq⟩
  · exact va_gets hx hb hq hS hown (hts _ lS_si) (fun _ h => h) dS_chk_2 (fin .null (Or.inl rfl))
  · exact va_gets hx hb hq hS hown (hts _ lS_si) (fun _ h => h) dS_chk_2 (fin (.ref t) (Or.inr ⟨t, rfl⟩))
set_option maxHeartbeats 4000000 in
theorem cS_latAt {i : Nat} {k : Int32} (hi : i < sNum) (hlen : sLen.getD i 0 < 2 ^ 31) (hk : ix k (sLen.getD i 0)) : Met l qS_latAt.1 (wsM qS_latAt) (rmS 3 100) (PcS B sa sV [.ref (sV i), .int k]) (QcRead ((sByt.getD i []).getD k.toNatClampNeg 0 &&& 255)) 0 0 (fun _ => False) := by
  refine Met.ofW (cc := qS_latAt.2.1) (maxL := qS_latAt.2.2.1) (ret := qS_latAt.2.2.2) (by decide) rfl ?_
  intro p e s m args below meth c s₁ Bd hml hv
  obtain ⟨rfl, hZ⟩ := hv
  have hts : ∀ w ∈ gws, w.before _ s = true := fun w hw => atoms_spec (ws := wsM qS_latAt) Bd.pre w (List.mem_cons_of_mem _ hw)
  have hx := Bd.exec
  have hb := Bd.bytes
  have hr := Bd.returns
  have hlocks := Bd.notSynchronized
  have hown : s.vm.findClass "java/lang/StringLatin1" = some m.cls := findClass_of_methodNamed Bd.named
  have hS : va_S (fun q => B ≤ q) s.heap s.heap [] := va_S.rf
  have hl := lv_entry ([.ref (sV i), .int k]) (n := 2) (Nat.le_of_ble_eq_true rfl)
  rw [lg_entry_eq]
  generalize (lg_sl ([.ref (sV i), .int k]) ++ List.replicate (2 - (lg_sl ([.ref (sV i), .int k])).length) Slot.unset).toArray = ls at hl ⊢
  have hl : lv_has ls 2 [(0, .ref (sV i)), (1, .int k)] := hl
  have hT := (hZ.1 i hi).2.2.2
  refine lv_iload_n hx hb dS_latAt_0 rfl (lv_at hl 1 rfl) ?_
  refine lv_aload_n hx hb dS_latAt_1 rfl (lv_at hl 0 rfl) ?_
  refine va_tlen (v := nI (sLen.getD i 0)) hx hb hT hS rfl dS_latAt_2 ?_
  refine W.callN (W.runS (y := qS_chk.1) (bytes := qS_chk.2.1) (maxL := qS_chk.2.2.1) (ret := qS_chk.2.2.2) (ws := wsM qS_chk) (n := 2) (As := [.int k, .int (nI (sLen.getD i 0))]) (rest := []) ⟨hx, hb, hml, hown, hts⟩ (cS_chk hlen hk) ⟨callB_of 2 hts (wsM_good wS_chk) rfl rfl rfl (hts _ nS_st) (hts _ kS_chk) (by decide) (by decide), hts _ tS_chk⟩ ⟨PcS_blind, PcS_at hZ hS⟩ rfl rfl hl.1 rfl (lv_room (Nat.le_of_ble_eq_true rfl)) dS_latAt_3 ⟨Nat.zero_le _, Nat.zero_le _⟩) ?_
  refine lv_aload_n hx hb dS_latAt_6 rfl (lv_at hl 0 rfl) ?_
  refine lv_iload_n hx hb dS_latAt_7 rfl (lv_at hl 1 rfl) ?_
  refine va_tb hx hb hT hS hk rfl dS_latAt_8 ?_
  refine lv_sipush (v := 255) hx hb dS_latAt_9 (by decide) ?_
  refine lv_iand hx hb dS_latAt_12 ?_
  refine lv_i2c hx hb dS_latAt_13 (narrow_c _).1 ?_
  exact W.zret hx hb hr (narrow_c _).2 (fun t ht hWm => ⟨rfl, ht⟩) (fun q h => by cases h) dS_latAt_14
set_option maxHeartbeats 4000000 in
theorem cS_charAt {i : Nat} {k : Int32} (hi : i < sNum) (hlen : sLen.getD i 0 < 2 ^ 31) (hk : ix k (sLen.getD i 0)) : Met l qS_charAt.1 (wsM qS_charAt) (rmS 4 160) (PcS B sa sV [.ref (sa i), .int k]) (QcRead ((sByt.getD i []).getD k.toNatClampNeg 0 &&& 255)) 0 0 (fun _ => False) := by
  refine Met.ofW (cc := qS_charAt.2.1) (maxL := qS_charAt.2.2.1) (ret := qS_charAt.2.2.2) (by decide) rfl ?_
  intro p e s m args below meth c s₁ Bd hml hv
  obtain ⟨rfl, hZ⟩ := hv
  have hts : ∀ w ∈ gws, w.before _ s = true := fun w hw => atoms_spec (ws := wsM qS_charAt) Bd.pre w (List.mem_cons_of_mem _ hw)
  have hx := Bd.exec
  have hb := Bd.bytes
  have hr := Bd.returns
  have hlocks := Bd.notSynchronized
  have hown : s.vm.findClass "java/lang/String" = some m.cls := findClass_of_methodNamed Bd.named
  have hS : va_S (fun q => B ≤ q) s.heap s.heap [] := va_S.rf
  have hl := lv_entry ([.ref (sa i), .int k]) (n := 2) (Nat.le_of_ble_eq_true rfl)
  rw [lg_entry_eq]
  generalize (lg_sl ([.ref (sa i), .int k]) ++ List.replicate (2 - (lg_sl ([.ref (sa i), .int k])).length) Slot.unset).toArray = ls at hl ⊢
  have hl : lv_has ls 2 [(0, .ref (sa i)), (1, .int k)] := hl
  refine lv_aload_n hx hb dS_charAt_0 rfl (lv_at hl 0 rfl) ?_
  refine W.callR (W.runV (C := "java/lang/String") (y := qS_isLat.1) (bytes := qS_isLat.2.1) (maxL := qS_isLat.2.2.1) (ret := qS_isLat.2.2.2) (ws := wsM qS_isLat) (n := 0) (As := []) (rest := []) ⟨hx, hb, hml, hown, hts⟩ (cS_isLat hi) ⟨callB_of 0 hts (wsM_good wS_isLat) rfl rfl rfl (hts _ nS_st) (hts _ kS_isLat) (by decide) (by decide), hts _ iS_isLat, hts _ sS_isLat⟩ ⟨PcS_blind, hZ.1.recv hi hS, PcS_at hZ hS⟩ rfl rfl hl.1 rfl (lv_room (Nat.le_of_ble_eq_true rfl)) dS_charAt_1 ⟨Nat.zero_le _, Nat.zero_le _⟩) ?_
  refine lv_if_eq (tgt := 16) hx hb dS_charAt_4 rfl (fun q => absurd q (by decide)) (fun _ => ?_)
  refine lv_aload_n hx hb dS_charAt_7 rfl (lv_at hl 0 rfl) ?_
  refine vk_getf hx hb (hZ.1 i hi).2.2.1 hS hown (hts _ lS_va) (fun _ h => h) dS_charAt_8 ?_
  refine lv_iload_n hx hb dS_charAt_11 rfl (lv_at hl 1 rfl) ?_
  refine W.callR (W.runS (y := qS_latAt.1) (bytes := qS_latAt.2.1) (maxL := qS_latAt.2.2.1) (ret := qS_latAt.2.2.2) (ws := wsM qS_latAt) (n := 2) (As := [.ref (sV i), .int k]) (rest := []) ⟨hx, hb, hml, hown, hts⟩ (cS_latAt hi hlen hk) ⟨callB_of 2 hts (wsM_good wS_latAt) rfl rfl rfl (hts _ nS_la) (hts _ kS_latAt) (by decide) (by decide), hts _ tS_latAt⟩ ⟨PcS_blind, PcS_at hZ hS⟩ rfl rfl hl.1 rfl (lv_room (Nat.le_of_ble_eq_true rfl)) dS_charAt_12 ⟨Nat.zero_le _, Nat.zero_le _⟩) ?_
  exact W.zret hx hb hr (narrow_c _).2 (fun t ht hWm => ⟨rfl, ht⟩) (fun q h => by cases h) dS_charAt_15
theorem sLen_lt : ∀ i, i < sNum → sLen.getD i 0 < 2 ^ 31 := by decide
section
variable {p : Program} {e : Env} {R : Room} {s : State} {m : MethodId} {args : Array Value} {below : List Frame} {meth : Method} {c : Code} {H : Heap} {locs : List Loc} {cells slots : Nat} {Q : State → Prop}
variable {n0 : Nat} {X : Cst} {cA : Nat → ClassId} {D : va_G} {own : String} {ini : Bool} {ml : Nat} {rt : Option FieldType} {cc : ByteArray} {pc : Nat} {L : Lo} {S : List Value} {h : AH} {ls : Array Slot} {lk : Lk} {hp : List Nat} {K : Cont}
set_option maxHeartbeats 4000000 in
/-- length() and charAt() of a string constant -/
theorem step_str (F : Fx p R s m args meth c B n0 X sa cA D own ini ml cc) (hc : hn h = n0 + cells) (hW : WR B cA D s H h) (hS : va_S (fun q => B ≤ q) s.heap H locs) (hlo : hasL B sa ls ml L) {k : Nat} (hcl : cells ≤ R.cells ∧ slots ≤ R.slots)
    (hk : rok own ini ml rt cc pc (.invokevirtual k) lk hp = true) (w : wpI X (.invokevirtual k) lk pc L S h K) (kk : Go p l e R s m args below meth c Q B n0 sa cA D ml slots h K) (hlk : lk.2.2.1 = []) :
    W p l e R s m args below meth c H locs cells slots Q (F0 m pc ls (S.map (cv B sa))) := by
  obtain ⟨hx, hb, hml, hown, hts, hin, hRm, hE, hs0⟩ := F
  have hd := rk hk
  have go := fun {pc' : Nat} {L' : Lo} {S' : List Value} {ls' : Array Slot} => Go.same (pc' := pc') (L' := L') (S' := S') (ls' := ls') kk hc hW hS
  obtain ⟨hX2, ⟨sV, hZ⟩, hstr⟩ := hE.2.2.2.2.2.1
  obtain ⟨-, hk⟩ := Bool.and_eq_true_iff.mp hk
  rw [hlk] at hk
  simp only [wpI] at w
  split at w
  · rename_i q r e1
    obtain ⟨w0, w⟩ := w
    obtain ⟨h8, w⟩ := ct_e w
    rw [hX2] at w0 w
    rcases hp with _ | ⟨p1, _ | ⟨p2, r2⟩⟩
    · cases hk
    · simp only [Bool.or_eq_true, Bool.and_eq_true, decide_eq_true_eq] at hk
      rcases hk with ⟨⟨-, k1⟩, k2⟩ | ⟨⟨k0, -⟩, -⟩
      · refine W.callR (W.runV (g := F0 m pc ls (.ref (sa q) :: r.map (cv B sa))) (C := "java/lang/String") (y := qS_length.1) (bytes := qS_length.2.1) (maxL := qS_length.2.2.1) (ret := qS_length.2.2.2) (ws := wsM qS_length) (n := 0) (As := []) (rest := r.map (cv B sa)) ⟨hx, hb, hml, hown, hts⟩ (cS_length w0 (sLen_lt q w0)) ⟨callB_of 0 hts (wsM_good wS_length) rfl rfl rfl (hts _ nS_st) (hts _ (wat_in k2)) (by decide) ⟨by show 3 ≤ _; omega, by show 8 + (1 + 11) + 60 ≤ _; omega⟩, hts _ iS_length, hts _ sS_length⟩ ⟨PcS_blind, hZ.1.recv w0 hS, PcS_at hZ hS⟩ rfl rfl hlo.1 rfl (room_st h8) hd hcl) (go w hlo)
      · rw [e1] at k0; cases k0
    · exfalso
      dsimp only at hk
      split at hk
      · simp at hk
      · cases hk
  · rename_i i q r e1
    obtain ⟨w0, w1, w⟩ := w
    obtain ⟨h8, w⟩ := ct_e w
    rw [hX2] at w0 w w1
    rcases hp with _ | ⟨p1, _ | ⟨p2, r2⟩⟩
    · cases hk
    · simp only [Bool.or_eq_true, Bool.and_eq_true, decide_eq_true_eq] at hk
      rcases hk with ⟨⟨k0, -⟩, -⟩ | ⟨⟨-, k1⟩, k2⟩
      · rw [e1] at k0; cases k0
      · refine W.callR (W.runV (g := F0 m pc ls (.int i :: .ref (sa q) :: r.map (cv B sa))) (C := "java/lang/String") (y := qS_charAt.1) (bytes := qS_charAt.2.1) (maxL := qS_charAt.2.2.1) (ret := qS_charAt.2.2.2) (ws := wsM qS_charAt) (n := 1) (As := [.int i]) (rest := r.map (cv B sa)) ⟨hx, hb, hml, hown, hts⟩ (cS_charAt w0 (sLen_lt q w0) w1) ⟨callB_of 1 hts (wsM_good wS_charAt) rfl rfl rfl (hts _ nS_st) (hts _ (wat_in k2)) (by decide) ⟨by show 5 ≤ _; omega, by show 8 + (2 + 11) + 160 ≤ _; omega⟩, hts _ iS_charAt, hts _ sS_charAt⟩ ⟨PcS_blind, hZ.1.recv w0 hS, PcS_at hZ hS⟩ rfl rfl hlo.1 rfl (room_st h8) hd hcl) (go w hlo)
    · exfalso
      dsimp only at hk
      split at hk
      · simp at hk
      · cases hk
  · exact w.elim
end
end S17s

