set_option maxRecDepth 100000 in
theorem ra0 : RowsAt 0 := by
  intro q hq pc i lk hf
  cases (show gMt[0]? = some (({ cls := "OutwardDoors", name := "<init>", desc := "()V" } : Jvm.MethodName), prog_1_method_1_code, 2, (Option.none : Option Jvm.ClassFile.FieldType)) from rfl).symm.trans hq
  have e : ini? (({ cls := "OutwardDoors", name := "<init>", desc := "()V" } : Jvm.MethodName), prog_1_method_1_code, 2, (Option.none : Option Jvm.ClassFile.FieldType)) = true := by decide
  rw [e]
  exact rows_of ck0 (by decide +kernel) rfl hf
set_option maxRecDepth 100000 in
theorem ra1 : RowsAt 1 := by
  intro q hq pc i lk hf
  cases (show gMt[1]? = some (({ cls := "OutwardDoors$Tape", name := "<init>", desc := "()V" } : Jvm.MethodName), prog_11_method_1_code, 1, (Option.none : Option Jvm.ClassFile.FieldType)) from rfl).symm.trans hq
  have e : ini? (({ cls := "OutwardDoors$Tape", name := "<init>", desc := "()V" } : Jvm.MethodName), prog_11_method_1_code, 1, (Option.none : Option Jvm.ClassFile.FieldType)) = true := by decide
  rw [e]
  exact rows_of ck1 (by decide +kernel) rfl hf
set_option maxRecDepth 100000 in
theorem ra2 : RowsAt 2 := by
  intro q hq pc i lk hf
  cases (show gMt[2]? = some (({ cls := "OutwardDoors$CastleReader", name := "<init>", desc := "(LOutwardDoors$Tape;)V" } : Jvm.MethodName), prog_2_method_1_code, 2, (Option.none : Option Jvm.ClassFile.FieldType)) from rfl).symm.trans hq
  have e : ini? (({ cls := "OutwardDoors$CastleReader", name := "<init>", desc := "(LOutwardDoors$Tape;)V" } : Jvm.MethodName), prog_2_method_1_code, 2, (Option.none : Option Jvm.ClassFile.FieldType)) = true := by decide
  rw [e]
  exact rows_of ck2 (by decide +kernel) rfl hf
set_option maxRecDepth 100000 in
theorem ra3 : RowsAt 3 := by
  intro q hq pc i lk hf
  cases (show gMt[3]? = some (({ cls := "OutwardDoors$Plan", name := "<init>", desc := "()V" } : Jvm.MethodName), prog_5_method_1_code, 1, (Option.none : Option Jvm.ClassFile.FieldType)) from rfl).symm.trans hq
  have e : ini? (({ cls := "OutwardDoors$Plan", name := "<init>", desc := "()V" } : Jvm.MethodName), prog_5_method_1_code, 1, (Option.none : Option Jvm.ClassFile.FieldType)) = true := by decide
  rw [e]
  exact rows_of ck3 (by decide +kernel) rfl hf
set_option maxRecDepth 100000 in
theorem ra4 : RowsAt 4 := by
  intro q hq pc i lk hf
  cases (show gMt[4]? = some (({ cls := "java/util/Arrays", name := "fill", desc := "([II)V" } : Jvm.MethodName), prog_21_method_103_code, 4, (Option.none : Option Jvm.ClassFile.FieldType)) from rfl).symm.trans hq
  have e : ini? (({ cls := "java/util/Arrays", name := "fill", desc := "([II)V" } : Jvm.MethodName), prog_21_method_103_code, 4, (Option.none : Option Jvm.ClassFile.FieldType)) = false := by decide
  rw [e]
  exact rows_of ck4 (by decide +kernel) rfl hf
set_option maxRecDepth 100000 in
theorem ra5 : RowsAt 5 := by
  intro q hq pc i lk hf
  cases (show gMt[5]? = some (({ cls := "OutwardDoors$Rule", name := "<init>", desc := "()V" } : Jvm.MethodName), prog_7_method_1_code, 1, (Option.none : Option Jvm.ClassFile.FieldType)) from rfl).symm.trans hq
  have e : ini? (({ cls := "OutwardDoors$Rule", name := "<init>", desc := "()V" } : Jvm.MethodName), prog_7_method_1_code, 1, (Option.none : Option Jvm.ClassFile.FieldType)) = true := by decide
  rw [e]
  exact rows_of ck5 (by decide +kernel) rfl hf
set_option maxRecDepth 100000 in
theorem ra6 : RowsAt 6 := by
  intro q hq pc i lk hf
  cases (show gMt[6]? = some (({ cls := "OutwardDoors$RuleReader", name := "<init>", desc := "(LOutwardDoors$Tape;LOutwardDoors$Rule;)V" } : Jvm.MethodName), prog_8_method_1_code, 3, (Option.none : Option Jvm.ClassFile.FieldType)) from rfl).symm.trans hq
  have e : ini? (({ cls := "OutwardDoors$RuleReader", name := "<init>", desc := "(LOutwardDoors$Tape;LOutwardDoors$Rule;)V" } : Jvm.MethodName), prog_8_method_1_code, 3, (Option.none : Option Jvm.ClassFile.FieldType)) = true := by decide
  rw [e]
  exact rows_of ck6 (by decide +kernel) rfl hf
set_option maxRecDepth 100000 in
theorem ra7 : RowsAt 7 := by
  intro q hq pc i lk hf
  cases (show gMt[7]? = some (({ cls := "OutwardDoors$Rule", name := "becomeOne", desc := "()V" } : Jvm.MethodName), prog_7_method_4_code, 1, (Option.none : Option Jvm.ClassFile.FieldType)) from rfl).symm.trans hq
  have e : ini? (({ cls := "OutwardDoors$Rule", name := "becomeOne", desc := "()V" } : Jvm.MethodName), prog_7_method_4_code, 1, (Option.none : Option Jvm.ClassFile.FieldType)) = false := by decide
  rw [e]
  exact rows_of ck7 (by decide +kernel) rfl hf
set_option maxRecDepth 100000 in
theorem ra8 : RowsAt 8 := by
  intro q hq pc i lk hf
  cases (show gMt[8]? = some (({ cls := "OutwardDoors$Rule", name := "clear", desc := "()V" } : Jvm.MethodName), prog_7_method_3_code, 1, (Option.none : Option Jvm.ClassFile.FieldType)) from rfl).symm.trans hq
  have e : ini? (({ cls := "OutwardDoors$Rule", name := "clear", desc := "()V" } : Jvm.MethodName), prog_7_method_3_code, 1, (Option.none : Option Jvm.ClassFile.FieldType)) = false := by decide
  rw [e]
  exact rows_of ck8 (by decide +kernel) rfl hf
set_option maxRecDepth 100000 in
theorem ra9 : RowsAt 9 := by
  intro q hq pc i lk hf
  cases (show gMt[9]? = some (({ cls := "OutwardDoors$Rule", name := "add", desc := "(II)V" } : Jvm.MethodName), prog_7_method_5_code, 3, (Option.none : Option Jvm.ClassFile.FieldType)) from rfl).symm.trans hq
  have e : ini? (({ cls := "OutwardDoors$Rule", name := "add", desc := "(II)V" } : Jvm.MethodName), prog_7_method_5_code, 3, (Option.none : Option Jvm.ClassFile.FieldType)) = false := by decide
  rw [e]
  exact rows_of ck9 (by decide +kernel) rfl hf
set_option maxRecDepth 100000 in
theorem ra10 : RowsAt 10 := by
  intro q hq pc i lk hf
  cases (show gMt[10]? = some (({ cls := "OutwardDoors$Rule", name := "addClause", desc := "(I)V" } : Jvm.MethodName), prog_7_method_6_code, 2, (Option.none : Option Jvm.ClassFile.FieldType)) from rfl).symm.trans hq
  have e : ini? (({ cls := "OutwardDoors$Rule", name := "addClause", desc := "(I)V" } : Jvm.MethodName), prog_7_method_6_code, 2, (Option.none : Option Jvm.ClassFile.FieldType)) = false := by decide
  rw [e]
  exact rows_of ck10 (by decide +kernel) rfl hf
set_option maxRecDepth 100000 in
theorem ra11 : RowsAt 11 := by
  intro q hq pc i lk hf
  cases (show gMt[11]? = some (({ cls := "OutwardDoors$Scene", name := "<init>", desc := "(LOutwardDoors$Plan;)V" } : Jvm.MethodName), prog_9_method_1_code, 2, (Option.none : Option Jvm.ClassFile.FieldType)) from rfl).symm.trans hq
  have e : ini? (({ cls := "OutwardDoors$Scene", name := "<init>", desc := "(LOutwardDoors$Plan;)V" } : Jvm.MethodName), prog_9_method_1_code, 2, (Option.none : Option Jvm.ClassFile.FieldType)) = true := by decide
  rw [e]
  exact rows_of ck11 (by decide +kernel) rfl hf
set_option maxRecDepth 100000 in
theorem ra12 : RowsAt 12 := by
  intro q hq pc i lk hf
  cases (show gMt[12]? = some (({ cls := "OutwardDoors$World", name := "<init>", desc := "()V" } : Jvm.MethodName), prog_12_method_1_code, 1, (Option.none : Option Jvm.ClassFile.FieldType)) from rfl).symm.trans hq
  have e : ini? (({ cls := "OutwardDoors$World", name := "<init>", desc := "()V" } : Jvm.MethodName), prog_12_method_1_code, 1, (Option.none : Option Jvm.ClassFile.FieldType)) = true := by decide
  rw [e]
  exact rows_of ck12 (by decide +kernel) rfl hf
set_option maxRecDepth 100000 in
theorem ra13 : RowsAt 13 := by
  intro q hq pc i lk hf
  cases (show gMt[13]? = some (({ cls := "OutwardDoors$Mover", name := "<init>", desc := "()V" } : Jvm.MethodName), prog_3_method_1_code, 1, (Option.none : Option Jvm.ClassFile.FieldType)) from rfl).symm.trans hq
  have e : ini? (({ cls := "OutwardDoors$Mover", name := "<init>", desc := "()V" } : Jvm.MethodName), prog_3_method_1_code, 1, (Option.none : Option Jvm.ClassFile.FieldType)) = true := by decide
  rw [e]
  exact rows_of ck13 (by decide +kernel) rfl hf
set_option maxRecDepth 100000 in
theorem ra14 : RowsAt 14 := by
  intro q hq pc i lk hf
  cases (show gMt[14]? = some (({ cls := "OutwardDoors$Search", name := "<init>", desc := "(LOutwardDoors$Plan;)V" } : Jvm.MethodName), prog_10_method_1_code, 2, (Option.none : Option Jvm.ClassFile.FieldType)) from rfl).symm.trans hq
  have e : ini? (({ cls := "OutwardDoors$Search", name := "<init>", desc := "(LOutwardDoors$Plan;)V" } : Jvm.MethodName), prog_10_method_1_code, 2, (Option.none : Option Jvm.ClassFile.FieldType)) = true := by decide
  rw [e]
  exact rows_of ck14 (by decide +kernel) rfl hf
set_option maxRecDepth 100000 in
theorem ra15 : RowsAt 15 := by
  intro q hq pc i lk hf
  cases (show gMt[15]? = some (({ cls := "OutwardDoors$Passings", name := "<init>", desc := "(LOutwardDoors$Plan;)V" } : Jvm.MethodName), prog_4_method_1_code, 2, (Option.none : Option Jvm.ClassFile.FieldType)) from rfl).symm.trans hq
  have e : ini? (({ cls := "OutwardDoors$Passings", name := "<init>", desc := "(LOutwardDoors$Plan;)V" } : Jvm.MethodName), prog_4_method_1_code, 2, (Option.none : Option Jvm.ClassFile.FieldType)) = true := by decide
  rw [e]
  exact rows_of ck15 (by decide +kernel) rfl hf
set_option maxRecDepth 100000 in
theorem ra16 : RowsAt 16 := by
  intro q hq pc i lk hf
  cases (show gMt[16]? = some (({ cls := "OutwardDoors$Pricer", name := "<init>", desc := "(LOutwardDoors$Plan;)V" } : Jvm.MethodName), prog_6_method_1_code, 2, (Option.none : Option Jvm.ClassFile.FieldType)) from rfl).symm.trans hq
  have e : ini? (({ cls := "OutwardDoors$Pricer", name := "<init>", desc := "(LOutwardDoors$Plan;)V" } : Jvm.MethodName), prog_6_method_1_code, 2, (Option.none : Option Jvm.ClassFile.FieldType)) = true := by decide
  rw [e]
  exact rows_of ck16 (by decide +kernel) rfl hf
set_option maxRecDepth 100000 in
theorem ra17 : RowsAt 17 := by
  intro q hq pc i lk hf
  cases (show gMt[17]? = some (({ cls := "OutwardDoors", name := "feed", desc := "(IIIII)I" } : Jvm.MethodName), prog_1_method_2_code, 6, (Option.some Jvm.ClassFile.FieldType.int)) from rfl).symm.trans hq
  have e : ini? (({ cls := "OutwardDoors", name := "feed", desc := "(IIIII)I" } : Jvm.MethodName), prog_1_method_2_code, 6, (Option.some Jvm.ClassFile.FieldType.int)) = false := by decide
  rw [e]
  exact rows_of ck17 (by decide +kernel) rfl hf
set_option maxRecDepth 100000 in
theorem ra18 : RowsAt 18 := by
  intro q hq pc i lk hf
  cases (show gMt[18]? = some (({ cls := "OutwardDoors$Tape", name := "put", desc := "(I)V" } : Jvm.MethodName), prog_11_method_2_code, 3, (Option.none : Option Jvm.ClassFile.FieldType)) from rfl).symm.trans hq
  have e : ini? (({ cls := "OutwardDoors$Tape", name := "put", desc := "(I)V" } : Jvm.MethodName), prog_11_method_2_code, 3, (Option.none : Option Jvm.ClassFile.FieldType)) = false := by decide
  rw [e]
  exact rows_of ck18 (by decide +kernel) rfl hf
set_option maxRecDepth 100000 in
theorem ra19 : RowsAt 19 := by
  intro q hq pc i lk hf
  cases (show gMt[19]? = some (({ cls := "OutwardDoors", name := "end", desc := "(I)I" } : Jvm.MethodName), prog_1_method_3_code, 2, (Option.some Jvm.ClassFile.FieldType.int)) from rfl).symm.trans hq
  have e : ini? (({ cls := "OutwardDoors", name := "end", desc := "(I)I" } : Jvm.MethodName), prog_1_method_3_code, 2, (Option.some Jvm.ClassFile.FieldType.int)) = false := by decide
  rw [e]
  exact rows_of ck19 (by decide +kernel) rfl hf
set_option maxRecDepth 100000 in
theorem ra20 : RowsAt 20 := by
  intro q hq pc i lk hf
  cases (show gMt[20]? = some (({ cls := "OutwardDoors", name := "castle", desc := "()I" } : Jvm.MethodName), prog_1_method_4_code, 2, (Option.some Jvm.ClassFile.FieldType.int)) from rfl).symm.trans hq
  have e : ini? (({ cls := "OutwardDoors", name := "castle", desc := "()I" } : Jvm.MethodName), prog_1_method_4_code, 2, (Option.some Jvm.ClassFile.FieldType.int)) = false := by decide
  rw [e]
  exact rows_of ck20 (by decide +kernel) rfl hf
set_option maxRecDepth 100000 in
theorem ra21 : RowsAt 21 := by
  intro q hq pc i lk hf
  cases (show gMt[21]? = some (({ cls := "OutwardDoors$CastleReader", name := "read", desc := "()V" } : Jvm.MethodName), prog_2_method_3_code, 3, (Option.none : Option Jvm.ClassFile.FieldType)) from rfl).symm.trans hq
  have e : ini? (({ cls := "OutwardDoors$CastleReader", name := "read", desc := "()V" } : Jvm.MethodName), prog_2_method_3_code, 3, (Option.none : Option Jvm.ClassFile.FieldType)) = false := by decide
  rw [e]
  exact rows_of ck21 (by decide +kernel) rfl hf
set_option maxRecDepth 100000 in
theorem ra22 : RowsAt 22 := by
  intro q hq pc i lk hf
  cases (show gMt[22]? = some (({ cls := "OutwardDoors$Plan", name := "clear", desc := "()V" } : Jvm.MethodName), prog_5_method_2_code, 2, (Option.none : Option Jvm.ClassFile.FieldType)) from rfl).symm.trans hq
  have e : ini? (({ cls := "OutwardDoors$Plan", name := "clear", desc := "()V" } : Jvm.MethodName), prog_5_method_2_code, 2, (Option.none : Option Jvm.ClassFile.FieldType)) = false := by decide
  rw [e]
  exact rows_of ck22 (by decide +kernel) rfl hf
set_option maxRecDepth 100000 in
theorem ra23 : RowsAt 23 := by
  intro q hq pc i lk hf
  cases (show gMt[23]? = some (({ cls := "OutwardDoors$Tape", name := "open", desc := "()V" } : Jvm.MethodName), prog_11_method_3_code, 1, (Option.none : Option Jvm.ClassFile.FieldType)) from rfl).symm.trans hq
  have e : ini? (({ cls := "OutwardDoors$Tape", name := "open", desc := "()V" } : Jvm.MethodName), prog_11_method_3_code, 1, (Option.none : Option Jvm.ClassFile.FieldType)) = false := by decide
  rw [e]
  exact rows_of ck23 (by decide +kernel) rfl hf
set_option maxRecDepth 100000 in
theorem ra24 : RowsAt 24 := by
  intro q hq pc i lk hf
  cases (show gMt[24]? = some (({ cls := "OutwardDoors$Tape", name := "next", desc := "()V" } : Jvm.MethodName), prog_11_method_4_code, 2, (Option.none : Option Jvm.ClassFile.FieldType)) from rfl).symm.trans hq
  have e : ini? (({ cls := "OutwardDoors$Tape", name := "next", desc := "()V" } : Jvm.MethodName), prog_11_method_4_code, 2, (Option.none : Option Jvm.ClassFile.FieldType)) = false := by decide
  rw [e]
  exact rows_of ck24 (by decide +kernel) rfl hf
set_option maxRecDepth 100000 in
theorem ra25 : RowsAt 25 := by
  intro q hq pc i lk hf
  cases (show gMt[25]? = some (({ cls := "OutwardDoors$Tape", name := "isWithin", desc := "(III)Z" } : Jvm.MethodName), prog_11_method_5_code, 3, (Option.some Jvm.ClassFile.FieldType.boolean)) from rfl).symm.trans hq
  have e : ini? (({ cls := "OutwardDoors$Tape", name := "isWithin", desc := "(III)Z" } : Jvm.MethodName), prog_11_method_5_code, 3, (Option.some Jvm.ClassFile.FieldType.boolean)) = false := by decide
  rw [e]
  exact rows_of ck25 (by decide +kernel) rfl hf
set_option maxRecDepth 100000 in
theorem ra26 : RowsAt 26 := by
  intro q hq pc i lk hf
  cases (show gMt[26]? = some (({ cls := "OutwardDoors$Tape", name := "behind", desc := "(III)I" } : Jvm.MethodName), prog_11_method_6_code, 5, (Option.some Jvm.ClassFile.FieldType.int)) from rfl).symm.trans hq
  have e : ini? (({ cls := "OutwardDoors$Tape", name := "behind", desc := "(III)I" } : Jvm.MethodName), prog_11_method_6_code, 5, (Option.some Jvm.ClassFile.FieldType.int)) = false := by decide
  rw [e]
  exact rows_of ck26 (by decide +kernel) rfl hf
set_option maxRecDepth 100000 in
theorem ra27 : RowsAt 27 := by
  intro q hq pc i lk hf
  cases (show gMt[27]? = some (({ cls := "OutwardDoors$Tape", name := "numberIn", desc := "(II)I" } : Jvm.MethodName), prog_11_method_7_code, 5, (Option.some Jvm.ClassFile.FieldType.int)) from rfl).symm.trans hq
  have e : ini? (({ cls := "OutwardDoors$Tape", name := "numberIn", desc := "(II)I" } : Jvm.MethodName), prog_11_method_7_code, 5, (Option.some Jvm.ClassFile.FieldType.int)) = false := by decide
  rw [e]
  exact rows_of ck27 (by decide +kernel) rfl hf
set_option maxRecDepth 100000 in
theorem ra28 : RowsAt 28 := by
  intro q hq pc i lk hf
  cases (show gMt[28]? = some (({ cls := "OutwardDoors$Tape", name := "scanMark", desc := "(I)V" } : Jvm.MethodName), prog_11_method_8_code, 3, (Option.none : Option Jvm.ClassFile.FieldType)) from rfl).symm.trans hq
  have e : ini? (({ cls := "OutwardDoors$Tape", name := "scanMark", desc := "(I)V" } : Jvm.MethodName), prog_11_method_8_code, 3, (Option.none : Option Jvm.ClassFile.FieldType)) = false := by decide
  rw [e]
  exact rows_of ck28 (by decide +kernel) rfl hf
set_option maxRecDepth 100000 in
theorem ra29 : RowsAt 29 := by
  intro q hq pc i lk hf
  cases (show gMt[29]? = some (({ cls := "OutwardDoors$CastleReader", name := "readClause", desc := "()V" } : Jvm.MethodName), prog_2_method_4_code, 2, (Option.none : Option Jvm.ClassFile.FieldType)) from rfl).symm.trans hq
  have e : ini? (({ cls := "OutwardDoors$CastleReader", name := "readClause", desc := "()V" } : Jvm.MethodName), prog_2_method_4_code, 2, (Option.none : Option Jvm.ClassFile.FieldType)) = false := by decide
  rw [e]
  exact rows_of ck29 (by decide +kernel) rfl hf
set_option maxRecDepth 100000 in
theorem ra30 : RowsAt 30 := by
  intro q hq pc i lk hf
  cases (show gMt[30]? = some (({ cls := "OutwardDoors$CastleReader", name := "clauseWord", desc := "()I" } : Jvm.MethodName), prog_2_method_5_code, 1, (Option.some Jvm.ClassFile.FieldType.int)) from rfl).symm.trans hq
  have e : ini? (({ cls := "OutwardDoors$CastleReader", name := "clauseWord", desc := "()I" } : Jvm.MethodName), prog_2_method_5_code, 1, (Option.some Jvm.ClassFile.FieldType.int)) = false := by decide
  rw [e]
  exact rows_of ck30 (by decide +kernel) rfl hf
set_option maxRecDepth 100000 in
theorem ra31 : RowsAt 31 := by
  intro q hq pc i lk hf
  cases (show gMt[31]? = some (({ cls := "OutwardDoors$Tape", name := "isWord", desc := "(Ljava/lang/String;)Z" } : Jvm.MethodName), prog_11_method_9_code, 3, (Option.some Jvm.ClassFile.FieldType.boolean)) from rfl).symm.trans hq
  have e : ini? (({ cls := "OutwardDoors$Tape", name := "isWord", desc := "(Ljava/lang/String;)Z" } : Jvm.MethodName), prog_11_method_9_code, 3, (Option.some Jvm.ClassFile.FieldType.boolean)) = false := by decide
  rw [e]
  exact rows_of ck31 (by decide +kernel) rfl hf
set_option maxRecDepth 100000 in
theorem ra32 : RowsAt 32 := by
  intro q hq pc i lk hf
  cases (show gMt[32]? = some (({ cls := "OutwardDoors$Tape", name := "fail", desc := "(I)V" } : Jvm.MethodName), prog_11_method_11_code, 2, (Option.none : Option Jvm.ClassFile.FieldType)) from rfl).symm.trans hq
  have e : ini? (({ cls := "OutwardDoors$Tape", name := "fail", desc := "(I)V" } : Jvm.MethodName), prog_11_method_11_code, 2, (Option.none : Option Jvm.ClassFile.FieldType)) = false := by decide
  rw [e]
  exact rows_of ck32 (by decide +kernel) rfl hf
set_option maxRecDepth 100000 in
theorem ra33 : RowsAt 33 := by
  intro q hq pc i lk hf
  cases (show gMt[33]? = some (({ cls := "OutwardDoors$CastleReader", name := "isOutOfPlace", desc := "(I)Z" } : Jvm.MethodName), prog_2_method_6_code, 2, (Option.some Jvm.ClassFile.FieldType.boolean)) from rfl).symm.trans hq
  have e : ini? (({ cls := "OutwardDoors$CastleReader", name := "isOutOfPlace", desc := "(I)Z" } : Jvm.MethodName), prog_2_method_6_code, 2, (Option.some Jvm.ClassFile.FieldType.boolean)) = false := by decide
  rw [e]
  exact rows_of ck33 (by decide +kernel) rfl hf
set_option maxRecDepth 100000 in
theorem ra34 : RowsAt 34 := by
  intro q hq pc i lk hf
  cases (show gMt[34]? = some (({ cls := "OutwardDoors$Plan", name := "hasNight", desc := "()Z" } : Jvm.MethodName), prog_5_method_3_code, 1, (Option.some Jvm.ClassFile.FieldType.boolean)) from rfl).symm.trans hq
  have e : ini? (({ cls := "OutwardDoors$Plan", name := "hasNight", desc := "()Z" } : Jvm.MethodName), prog_5_method_3_code, 1, (Option.some Jvm.ClassFile.FieldType.boolean)) = false := by decide
  rw [e]
  exact rows_of ck34 (by decide +kernel) rfl hf
set_option maxRecDepth 100000 in
theorem ra35 : RowsAt 35 := by
  intro q hq pc i lk hf
  cases (show gMt[35]? = some (({ cls := "OutwardDoors$Tape", name := "takeNumber", desc := "(III)I" } : Jvm.MethodName), prog_11_method_12_code, 5, (Option.some Jvm.ClassFile.FieldType.int)) from rfl).symm.trans hq
  have e : ini? (({ cls := "OutwardDoors$Tape", name := "takeNumber", desc := "(III)I" } : Jvm.MethodName), prog_11_method_12_code, 5, (Option.some Jvm.ClassFile.FieldType.int)) = false := by decide
  rw [e]
  exact rows_of ck35 (by decide +kernel) rfl hf
set_option maxRecDepth 100000 in
theorem ra36 : RowsAt 36 := by
  intro q hq pc i lk hf
  cases (show gMt[36]? = some (({ cls := "OutwardDoors$CastleReader", name := "readFar", desc := "()V" } : Jvm.MethodName), prog_2_method_7_code, 3, (Option.none : Option Jvm.ClassFile.FieldType)) from rfl).symm.trans hq
  have e : ini? (({ cls := "OutwardDoors$CastleReader", name := "readFar", desc := "()V" } : Jvm.MethodName), prog_2_method_7_code, 3, (Option.none : Option Jvm.ClassFile.FieldType)) = false := by decide
  rw [e]
  exact rows_of ck36 (by decide +kernel) rfl hf
set_option maxRecDepth 100000 in
theorem ra37 : RowsAt 37 := by
  intro q hq pc i lk hf
  cases (show gMt[37]? = some (({ cls := "OutwardDoors$CastleReader", name := "readNight", desc := "()V" } : Jvm.MethodName), prog_2_method_9_code, 3, (Option.none : Option Jvm.ClassFile.FieldType)) from rfl).symm.trans hq
  have e : ini? (({ cls := "OutwardDoors$CastleReader", name := "readNight", desc := "()V" } : Jvm.MethodName), prog_2_method_9_code, 3, (Option.none : Option Jvm.ClassFile.FieldType)) = false := by decide
  rw [e]
  exact rows_of ck37 (by decide +kernel) rfl hf
set_option maxRecDepth 100000 in
theorem ra38 : RowsAt 38 := by
  intro q hq pc i lk hf
  cases (show gMt[38]? = some (({ cls := "OutwardDoors$CastleReader", name := "readPerson", desc := "()V" } : Jvm.MethodName), prog_2_method_10_code, 4, (Option.none : Option Jvm.ClassFile.FieldType)) from rfl).symm.trans hq
  have e : ini? (({ cls := "OutwardDoors$CastleReader", name := "readPerson", desc := "()V" } : Jvm.MethodName), prog_2_method_10_code, 4, (Option.none : Option Jvm.ClassFile.FieldType)) = false := by decide
  rw [e]
  exact rows_of ck38 (by decide +kernel) rfl hf
set_option maxRecDepth 100000 in
theorem ra39 : RowsAt 39 := by
  intro q hq pc i lk hf
  cases (show gMt[39]? = some (({ cls := "OutwardDoors$Plan", name := "addPerson", desc := "(III)V" } : Jvm.MethodName), prog_5_method_6_code, 4, (Option.none : Option Jvm.ClassFile.FieldType)) from rfl).symm.trans hq
  have e : ini? (({ cls := "OutwardDoors$Plan", name := "addPerson", desc := "(III)V" } : Jvm.MethodName), prog_5_method_6_code, 4, (Option.none : Option Jvm.ClassFile.FieldType)) = false := by decide
  rw [e]
  exact rows_of ck39 (by decide +kernel) rfl hf
set_option maxRecDepth 100000 in
theorem ra40 : RowsAt 40 := by
  intro q hq pc i lk hf
  cases (show gMt[40]? = some (({ cls := "OutwardDoors$CastleReader", name := "readDoor", desc := "(Z)V" } : Jvm.MethodName), prog_2_method_8_code, 4, (Option.none : Option Jvm.ClassFile.FieldType)) from rfl).symm.trans hq
  have e : ini? (({ cls := "OutwardDoors$CastleReader", name := "readDoor", desc := "(Z)V" } : Jvm.MethodName), prog_2_method_8_code, 4, (Option.none : Option Jvm.ClassFile.FieldType)) = false := by decide
  rw [e]
  exact rows_of ck40 (by decide +kernel) rfl hf
set_option maxRecDepth 100000 in
theorem ra41 : RowsAt 41 := by
  intro q hq pc i lk hf
  cases (show gMt[41]? = some (({ cls := "OutwardDoors$Plan", name := "joinedTo", desc := "(I)I" } : Jvm.MethodName), prog_5_method_4_code, 4, (Option.some Jvm.ClassFile.FieldType.int)) from rfl).symm.trans hq
  have e : ini? (({ cls := "OutwardDoors$Plan", name := "joinedTo", desc := "(I)I" } : Jvm.MethodName), prog_5_method_4_code, 4, (Option.some Jvm.ClassFile.FieldType.int)) = false := by decide
  rw [e]
  exact rows_of ck41 (by decide +kernel) rfl hf
set_option maxRecDepth 100000 in
theorem ra42 : RowsAt 42 := by
  intro q hq pc i lk hf
  cases (show gMt[42]? = some (({ cls := "OutwardDoors$Plan", name := "doorBetween", desc := "(II)I" } : Jvm.MethodName), prog_5_method_12_code, 3, (Option.some Jvm.ClassFile.FieldType.int)) from rfl).symm.trans hq
  have e : ini? (({ cls := "OutwardDoors$Plan", name := "doorBetween", desc := "(II)I" } : Jvm.MethodName), prog_5_method_12_code, 3, (Option.some Jvm.ClassFile.FieldType.int)) = false := by decide
  rw [e]
  exact rows_of ck42 (by decide +kernel) rfl hf
set_option maxRecDepth 100000 in
theorem ra43 : RowsAt 43 := by
  intro q hq pc i lk hf
  cases (show gMt[43]? = some (({ cls := "OutwardDoors$Plan", name := "addDoor", desc := "(IIZ)V" } : Jvm.MethodName), prog_5_method_5_code, 4, (Option.none : Option Jvm.ClassFile.FieldType)) from rfl).symm.trans hq
  have e : ini? (({ cls := "OutwardDoors$Plan", name := "addDoor", desc := "(IIZ)V" } : Jvm.MethodName), prog_5_method_5_code, 4, (Option.none : Option Jvm.ClassFile.FieldType)) = false := by decide
  rw [e]
  exact rows_of ck43 (by decide +kernel) rfl hf
set_option maxRecDepth 100000 in
theorem ra44 : RowsAt 44 := by
  intro q hq pc i lk hf
  cases (show gMt[44]? = some (({ cls := "OutwardDoors$Tape", name := "goesOn", desc := "()Z" } : Jvm.MethodName), prog_11_method_13_code, 1, (Option.some Jvm.ClassFile.FieldType.boolean)) from rfl).symm.trans hq
  have e : ini? (({ cls := "OutwardDoors$Tape", name := "goesOn", desc := "()Z" } : Jvm.MethodName), prog_11_method_13_code, 1, (Option.some Jvm.ClassFile.FieldType.boolean)) = false := by decide
  rw [e]
  exact rows_of ck44 (by decide +kernel) rfl hf
set_option maxRecDepth 100000 in
theorem ra45 : RowsAt 45 := by
  intro q hq pc i lk hf
  cases (show gMt[45]? = some (({ cls := "OutwardDoors$Tape", name := "isMark", desc := "(I)Z" } : Jvm.MethodName), prog_11_method_10_code, 2, (Option.some Jvm.ClassFile.FieldType.boolean)) from rfl).symm.trans hq
  have e : ini? (({ cls := "OutwardDoors$Tape", name := "isMark", desc := "(I)Z" } : Jvm.MethodName), prog_11_method_10_code, 2, (Option.some Jvm.ClassFile.FieldType.boolean)) = false := by decide
  rw [e]
  exact rows_of ck45 (by decide +kernel) rfl hf
set_option maxRecDepth 100000 in
theorem ra46 : RowsAt 46 := by
  intro q hq pc i lk hf
  cases (show gMt[46]? = some (({ cls := "OutwardDoors$Plan", name := "finish", desc := "()V" } : Jvm.MethodName), prog_5_method_7_code, 4, (Option.none : Option Jvm.ClassFile.FieldType)) from rfl).symm.trans hq
  have e : ini? (({ cls := "OutwardDoors$Plan", name := "finish", desc := "()V" } : Jvm.MethodName), prog_5_method_7_code, 4, (Option.none : Option Jvm.ClassFile.FieldType)) = false := by decide
  rw [e]
  exact rows_of ck46 (by decide +kernel) rfl hf
set_option maxRecDepth 100000 in
theorem ra47 : RowsAt 47 := by
  intro q hq pc i lk hf
  cases (show gMt[47]? = some (({ cls := "OutwardDoors$Plan", name := "openDoors", desc := "(I)V" } : Jvm.MethodName), prog_5_method_8_code, 4, (Option.none : Option Jvm.ClassFile.FieldType)) from rfl).symm.trans hq
  have e : ini? (({ cls := "OutwardDoors$Plan", name := "openDoors", desc := "(I)V" } : Jvm.MethodName), prog_5_method_8_code, 4, (Option.none : Option Jvm.ClassFile.FieldType)) = false := by decide
  rw [e]
  exact rows_of ck47 (by decide +kernel) rfl hf
set_option maxRecDepth 100000 in
theorem ra48 : RowsAt 48 := by
  intro q hq pc i lk hf
  cases (show gMt[48]? = some (({ cls := "java/util/Arrays", name := "fill", desc := "([IIII)V" } : Jvm.MethodName), prog_21_method_104_code, 5, (Option.none : Option Jvm.ClassFile.FieldType)) from rfl).symm.trans hq
  have e : ini? (({ cls := "java/util/Arrays", name := "fill", desc := "([IIII)V" } : Jvm.MethodName), prog_21_method_104_code, 5, (Option.none : Option Jvm.ClassFile.FieldType)) = false := by decide
  rw [e]
  exact rows_of ck48 (by decide +kernel) rfl hf
set_option maxRecDepth 100000 in
theorem ra49 : RowsAt 49 := by
  intro q hq pc i lk hf
  cases (show gMt[49]? = some (({ cls := "java/util/Arrays", name := "rangeCheck", desc := "(III)V" } : Jvm.MethodName), prog_21_method_30_code, 3, (Option.none : Option Jvm.ClassFile.FieldType)) from rfl).symm.trans hq
  have e : ini? (({ cls := "java/util/Arrays", name := "rangeCheck", desc := "(III)V" } : Jvm.MethodName), prog_21_method_30_code, 3, (Option.none : Option Jvm.ClassFile.FieldType)) = false := by decide
  rw [e]
  exact rows_of ck49 (by decide +kernel) rfl hf
set_option maxRecDepth 100000 in
theorem ra50 : RowsAt 50 := by
  intro q hq pc i lk hf
  cases (show gMt[50]? = some (({ cls := "OutwardDoors$Plan", name := "measure", desc := "(I)V" } : Jvm.MethodName), prog_5_method_9_code, 6, (Option.none : Option Jvm.ClassFile.FieldType)) from rfl).symm.trans hq
  have e : ini? (({ cls := "OutwardDoors$Plan", name := "measure", desc := "(I)V" } : Jvm.MethodName), prog_5_method_9_code, 6, (Option.none : Option Jvm.ClassFile.FieldType)) = false := by decide
  rw [e]
  exact rows_of ck50 (by decide +kernel) rfl hf
set_option maxRecDepth 100000 in
theorem ra51 : RowsAt 51 := by
  intro q hq pc i lk hf
  cases (show gMt[51]? = some (({ cls := "OutwardDoors$Plan", name := "isBeside", desc := "(III)Z" } : Jvm.MethodName), prog_5_method_14_code, 5, (Option.some Jvm.ClassFile.FieldType.boolean)) from rfl).symm.trans hq
  have e : ini? (({ cls := "OutwardDoors$Plan", name := "isBeside", desc := "(III)Z" } : Jvm.MethodName), prog_5_method_14_code, 5, (Option.some Jvm.ClassFile.FieldType.boolean)) = false := by decide
  rw [e]
  exact rows_of ck51 (by decide +kernel) rfl hf
set_option maxRecDepth 100000 in
theorem ra52 : RowsAt 52 := by
  intro q hq pc i lk hf
  cases (show gMt[52]? = some (({ cls := "OutwardDoors$Plan", name := "canPass", desc := "(II)Z" } : Jvm.MethodName), prog_5_method_13_code, 3, (Option.some Jvm.ClassFile.FieldType.boolean)) from rfl).symm.trans hq
  have e : ini? (({ cls := "OutwardDoors$Plan", name := "canPass", desc := "(II)Z" } : Jvm.MethodName), prog_5_method_13_code, 3, (Option.some Jvm.ClassFile.FieldType.boolean)) = false := by decide
  rw [e]
  exact rows_of ck52 (by decide +kernel) rfl hf
set_option maxRecDepth 100000 in
theorem ra53 : RowsAt 53 := by
  intro q hq pc i lk hf
  cases (show gMt[53]? = some (({ cls := "OutwardDoors$Plan", name := "leftIndex", desc := "(III)I" } : Jvm.MethodName), prog_5_method_10_code, 3, (Option.some Jvm.ClassFile.FieldType.int)) from rfl).symm.trans hq
  have e : ini? (({ cls := "OutwardDoors$Plan", name := "leftIndex", desc := "(III)I" } : Jvm.MethodName), prog_5_method_10_code, 3, (Option.some Jvm.ClassFile.FieldType.int)) = false := by decide
  rw [e]
  exact rows_of ck53 (by decide +kernel) rfl hf
set_option maxRecDepth 100000 in
theorem ra54 : RowsAt 54 := by
  intro q hq pc i lk hf
  cases (show gMt[54]? = some (({ cls := "OutwardDoors$Plan", name := "left", desc := "(III)I" } : Jvm.MethodName), prog_5_method_16_code, 4, (Option.some Jvm.ClassFile.FieldType.int)) from rfl).symm.trans hq
  have e : ini? (({ cls := "OutwardDoors$Plan", name := "left", desc := "(III)I" } : Jvm.MethodName), prog_5_method_16_code, 4, (Option.some Jvm.ClassFile.FieldType.int)) = false := by decide
  rw [e]
  exact rows_of ck54 (by decide +kernel) rfl hf
set_option maxRecDepth 100000 in
theorem ra55 : RowsAt 55 := by
  intro q hq pc i lk hf
  cases (show gMt[55]? = some (({ cls := "OutwardDoors$CastleReader", name := "takePlan", desc := "()LOutwardDoors$Plan;" } : Jvm.MethodName), prog_2_method_2_code, 2, (Option.some (Jvm.ClassFile.FieldType.object "OutwardDoors$Plan"))) from rfl).symm.trans hq
  have e : ini? (({ cls := "OutwardDoors$CastleReader", name := "takePlan", desc := "()LOutwardDoors$Plan;" } : Jvm.MethodName), prog_2_method_2_code, 2, (Option.some (Jvm.ClassFile.FieldType.object "OutwardDoors$Plan"))) = false := by decide
  rw [e]
  exact rows_of ck55 (by decide +kernel) rfl hf
set_option maxRecDepth 100000 in
theorem ra56 : RowsAt 56 := by
  intro q hq pc i lk hf
  cases (show gMt[56]? = some (({ cls := "OutwardDoors$World", name := "begin", desc := "(LOutwardDoors$Plan;)V" } : Jvm.MethodName), prog_12_method_2_code, 2, (Option.none : Option Jvm.ClassFile.FieldType)) from rfl).symm.trans hq
  have e : ini? (({ cls := "OutwardDoors$World", name := "begin", desc := "(LOutwardDoors$Plan;)V" } : Jvm.MethodName), prog_12_method_2_code, 2, (Option.none : Option Jvm.ClassFile.FieldType)) = false := by decide
  rw [e]
  exact rows_of ck56 (by decide +kernel) rfl hf
set_option maxRecDepth 100000 in
theorem ra57 : RowsAt 57 := by
  intro q hq pc i lk hf
  cases (show gMt[57]? = some (({ cls := "OutwardDoors", name := "rule", desc := "()I" } : Jvm.MethodName), prog_1_method_5_code, 2, (Option.some Jvm.ClassFile.FieldType.int)) from rfl).symm.trans hq
  have e : ini? (({ cls := "OutwardDoors", name := "rule", desc := "()I" } : Jvm.MethodName), prog_1_method_5_code, 2, (Option.some Jvm.ClassFile.FieldType.int)) = false := by decide
  rw [e]
  exact rows_of ck57 (by decide +kernel) rfl hf
set_option maxRecDepth 100000 in
theorem ra58 : RowsAt 58 := by
  intro q hq pc i lk hf
  cases (show gMt[58]? = some (({ cls := "OutwardDoors$RuleReader", name := "read", desc := "(LOutwardDoors$Rule;)V" } : Jvm.MethodName), prog_8_method_2_code, 5, (Option.none : Option Jvm.ClassFile.FieldType)) from rfl).symm.trans hq
  have e : ini? (({ cls := "OutwardDoors$RuleReader", name := "read", desc := "(LOutwardDoors$Rule;)V" } : Jvm.MethodName), prog_8_method_2_code, 5, (Option.none : Option Jvm.ClassFile.FieldType)) = false := by decide
  rw [e]
  exact rows_of ck58 (by decide +kernel) rfl hf
set_option maxRecDepth 100000 in
theorem ra59 : RowsAt 59 := by
  intro q hq pc i lk hf
  cases (show gMt[59]? = some (({ cls := "OutwardDoors$RuleReader", name := "mayGo", desc := "()Z" } : Jvm.MethodName), prog_8_method_3_code, 1, (Option.some Jvm.ClassFile.FieldType.boolean)) from rfl).symm.trans hq
  have e : ini? (({ cls := "OutwardDoors$RuleReader", name := "mayGo", desc := "()Z" } : Jvm.MethodName), prog_8_method_3_code, 1, (Option.some Jvm.ClassFile.FieldType.boolean)) = false := by decide
  rw [e]
  exact rows_of ck59 (by decide +kernel) rfl hf
set_option maxRecDepth 100000 in
theorem ra60 : RowsAt 60 := by
  intro q hq pc i lk hf
  cases (show gMt[60]? = some (({ cls := "OutwardDoors$RuleReader", name := "readSum", desc := "()V" } : Jvm.MethodName), prog_8_method_9_code, 7, (Option.none : Option Jvm.ClassFile.FieldType)) from rfl).symm.trans hq
  have e : ini? (({ cls := "OutwardDoors$RuleReader", name := "readSum", desc := "()V" } : Jvm.MethodName), prog_8_method_9_code, 7, (Option.none : Option Jvm.ClassFile.FieldType)) = false := by decide
  rw [e]
  exact rows_of ck60 (by decide +kernel) rfl hf
set_option maxRecDepth 100000 in
theorem ra61 : RowsAt 61 := by
  intro q hq pc i lk hf
  cases (show gMt[61]? = some (({ cls := "OutwardDoors$RuleReader", name := "readValue", desc := "()V" } : Jvm.MethodName), prog_8_method_12_code, 4, (Option.none : Option Jvm.ClassFile.FieldType)) from rfl).symm.trans hq
  have e : ini? (({ cls := "OutwardDoors$RuleReader", name := "readValue", desc := "()V" } : Jvm.MethodName), prog_8_method_12_code, 4, (Option.none : Option Jvm.ClassFile.FieldType)) = false := by decide
  rw [e]
  exact rows_of ck61 (by decide +kernel) rfl hf
set_option maxRecDepth 100000 in
theorem ra62 : RowsAt 62 := by
  intro q hq pc i lk hf
  cases (show gMt[62]? = some (({ cls := "OutwardDoors$Rule", name := "wordName", desc := "(I)Ljava/lang/String;" } : Jvm.MethodName), prog_7_method_2_code, 1, (Option.some (Jvm.ClassFile.FieldType.object "java/lang/String"))) from rfl).symm.trans hq
  have e : ini? (({ cls := "OutwardDoors$Rule", name := "wordName", desc := "(I)Ljava/lang/String;" } : Jvm.MethodName), prog_7_method_2_code, 1, (Option.some (Jvm.ClassFile.FieldType.object "java/lang/String"))) = false := by decide
  rw [e]
  exact rows_of ck62 (by decide +kernel) rfl hf
set_option maxRecDepth 100000 in
theorem ra63 : RowsAt 63 := by
  intro q hq pc i lk hf
  cases (show gMt[63]? = some (({ cls := "OutwardDoors$RuleReader", name := "addPending", desc := "(I)V" } : Jvm.MethodName), prog_8_method_10_code, 2, (Option.none : Option Jvm.ClassFile.FieldType)) from rfl).symm.trans hq
  have e : ini? (({ cls := "OutwardDoors$RuleReader", name := "addPending", desc := "(I)V" } : Jvm.MethodName), prog_8_method_10_code, 2, (Option.none : Option Jvm.ClassFile.FieldType)) = false := by decide
  rw [e]
  exact rows_of ck63 (by decide +kernel) rfl hf
set_option maxRecDepth 100000 in
theorem ra64 : RowsAt 64 := by
  intro q hq pc i lk hf
  cases (show gMt[64]? = some (({ cls := "OutwardDoors$RuleReader", name := "timesOperation", desc := "()I" } : Jvm.MethodName), prog_8_method_13_code, 2, (Option.some Jvm.ClassFile.FieldType.int)) from rfl).symm.trans hq
  have e : ini? (({ cls := "OutwardDoors$RuleReader", name := "timesOperation", desc := "()I" } : Jvm.MethodName), prog_8_method_13_code, 2, (Option.some Jvm.ClassFile.FieldType.int)) = false := by decide
  rw [e]
  exact rows_of ck64 (by decide +kernel) rfl hf
set_option maxRecDepth 100000 in
theorem ra65 : RowsAt 65 := by
  intro q hq pc i lk hf
  cases (show gMt[65]? = some (({ cls := "OutwardDoors$RuleReader", name := "operationAmong", desc := "(IIII)I" } : Jvm.MethodName), prog_8_method_14_code, 5, (Option.some Jvm.ClassFile.FieldType.int)) from rfl).symm.trans hq
  have e : ini? (({ cls := "OutwardDoors$RuleReader", name := "operationAmong", desc := "(IIII)I" } : Jvm.MethodName), prog_8_method_14_code, 5, (Option.some Jvm.ClassFile.FieldType.int)) = false := by decide
  rw [e]
  exact rows_of ck65 (by decide +kernel) rfl hf
set_option maxRecDepth 100000 in
theorem ra66 : RowsAt 66 := by
  intro q hq pc i lk hf
  cases (show gMt[66]? = some (({ cls := "OutwardDoors$RuleReader", name := "passesOver", desc := "(I)Z" } : Jvm.MethodName), prog_8_method_11_code, 3, (Option.some Jvm.ClassFile.FieldType.boolean)) from rfl).symm.trans hq
  have e : ini? (({ cls := "OutwardDoors$RuleReader", name := "passesOver", desc := "(I)Z" } : Jvm.MethodName), prog_8_method_11_code, 3, (Option.some Jvm.ClassFile.FieldType.boolean)) = false := by decide
  rw [e]
  exact rows_of ck66 (by decide +kernel) rfl hf
set_option maxRecDepth 100000 in
theorem ra67 : RowsAt 67 := by
  intro q hq pc i lk hf
  cases (show gMt[67]? = some (({ cls := "OutwardDoors$RuleReader", name := "takesWord", desc := "(Ljava/lang/String;)Z" } : Jvm.MethodName), prog_8_method_4_code, 3, (Option.some Jvm.ClassFile.FieldType.boolean)) from rfl).symm.trans hq
  have e : ini? (({ cls := "OutwardDoors$RuleReader", name := "takesWord", desc := "(Ljava/lang/String;)Z" } : Jvm.MethodName), prog_8_method_4_code, 3, (Option.some Jvm.ClassFile.FieldType.boolean)) = false := by decide
  rw [e]
  exact rows_of ck67 (by decide +kernel) rfl hf
set_option maxRecDepth 100000 in
theorem ra68 : RowsAt 68 := by
  intro q hq pc i lk hf
  cases (show gMt[68]? = some (({ cls := "OutwardDoors$RuleReader", name := "readTest", desc := "(I)V" } : Jvm.MethodName), prog_8_method_5_code, 6, (Option.none : Option Jvm.ClassFile.FieldType)) from rfl).symm.trans hq
  have e : ini? (({ cls := "OutwardDoors$RuleReader", name := "readTest", desc := "(I)V" } : Jvm.MethodName), prog_8_method_5_code, 6, (Option.none : Option Jvm.ClassFile.FieldType)) = false := by decide
  rw [e]
  exact rows_of ck68 (by decide +kernel) rfl hf
set_option maxRecDepth 100000 in
theorem ra69 : RowsAt 69 := by
  intro q hq pc i lk hf
  cases (show gMt[69]? = some (({ cls := "OutwardDoors$RuleReader", name := "readFact", desc := "(I)V" } : Jvm.MethodName), prog_8_method_6_code, 5, (Option.none : Option Jvm.ClassFile.FieldType)) from rfl).symm.trans hq
  have e : ini? (({ cls := "OutwardDoors$RuleReader", name := "readFact", desc := "(I)V" } : Jvm.MethodName), prog_8_method_6_code, 5, (Option.none : Option Jvm.ClassFile.FieldType)) = false := by decide
  rw [e]
  exact rows_of ck69 (by decide +kernel) rfl hf
set_option maxRecDepth 100000 in
theorem ra70 : RowsAt 70 := by
  intro q hq pc i lk hf
  cases (show gMt[70]? = some (({ cls := "OutwardDoors$RuleReader", name := "closeBracket", desc := "()V" } : Jvm.MethodName), prog_8_method_7_code, 1, (Option.none : Option Jvm.ClassFile.FieldType)) from rfl).symm.trans hq
  have e : ini? (({ cls := "OutwardDoors$RuleReader", name := "closeBracket", desc := "()V" } : Jvm.MethodName), prog_8_method_7_code, 1, (Option.none : Option Jvm.ClassFile.FieldType)) = false := by decide
  rw [e]
  exact rows_of ck70 (by decide +kernel) rfl hf
set_option maxRecDepth 100000 in
theorem ra71 : RowsAt 71 := by
  intro q hq pc i lk hf
  cases (show gMt[71]? = some (({ cls := "OutwardDoors$RuleReader", name := "signOperation", desc := "()I" } : Jvm.MethodName), prog_8_method_15_code, 2, (Option.some Jvm.ClassFile.FieldType.int)) from rfl).symm.trans hq
  have e : ini? (({ cls := "OutwardDoors$RuleReader", name := "signOperation", desc := "()I" } : Jvm.MethodName), prog_8_method_15_code, 2, (Option.some Jvm.ClassFile.FieldType.int)) = false := by decide
  rw [e]
  exact rows_of ck71 (by decide +kernel) rfl hf
set_option maxRecDepth 100000 in
theorem ra72 : RowsAt 72 := by
  intro q hq pc i lk hf
  cases (show gMt[72]? = some (({ cls := "OutwardDoors$RuleReader", name := "maySign", desc := "(I)Z" } : Jvm.MethodName), prog_8_method_8_code, 2, (Option.some Jvm.ClassFile.FieldType.boolean)) from rfl).symm.trans hq
  have e : ini? (({ cls := "OutwardDoors$RuleReader", name := "maySign", desc := "(I)Z" } : Jvm.MethodName), prog_8_method_8_code, 2, (Option.some Jvm.ClassFile.FieldType.boolean)) = false := by decide
  rw [e]
  exact rows_of ck72 (by decide +kernel) rfl hf
set_option maxRecDepth 100000 in
theorem ra73 : RowsAt 73 := by
  intro q hq pc i lk hf
  cases (show gMt[73]? = some (({ cls := "OutwardDoors", name := "force", desc := "(I)I" } : Jvm.MethodName), prog_1_method_6_code, 3, (Option.some Jvm.ClassFile.FieldType.int)) from rfl).symm.trans hq
  have e : ini? (({ cls := "OutwardDoors", name := "force", desc := "(I)I" } : Jvm.MethodName), prog_1_method_6_code, 3, (Option.some Jvm.ClassFile.FieldType.int)) = false := by decide
  rw [e]
  exact rows_of ck73 (by decide +kernel) rfl hf
set_option maxRecDepth 100000 in
theorem ra74 : RowsAt 74 := by
  intro q hq pc i lk hf
  cases (show gMt[74]? = some (({ cls := "OutwardDoors", name := "person", desc := "(II)I" } : Jvm.MethodName), prog_1_method_7_code, 5, (Option.some Jvm.ClassFile.FieldType.int)) from rfl).symm.trans hq
  have e : ini? (({ cls := "OutwardDoors", name := "person", desc := "(II)I" } : Jvm.MethodName), prog_1_method_7_code, 5, (Option.some Jvm.ClassFile.FieldType.int)) = false := by decide
  rw [e]
  exact rows_of ck74 (by decide +kernel) rfl hf
set_option maxRecDepth 100000 in
theorem ra75 : RowsAt 75 := by
  intro q hq pc i lk hf
  cases (show gMt[75]? = some (({ cls := "OutwardDoors", name := "isPerson", desc := "(I)Z" } : Jvm.MethodName), prog_1_method_32_code, 2, (Option.some Jvm.ClassFile.FieldType.boolean)) from rfl).symm.trans hq
  have e : ini? (({ cls := "OutwardDoors", name := "isPerson", desc := "(I)Z" } : Jvm.MethodName), prog_1_method_32_code, 2, (Option.some Jvm.ClassFile.FieldType.boolean)) = false := by decide
  rw [e]
  exact rows_of ck75 (by decide +kernel) rfl hf
set_option maxRecDepth 100000 in
theorem ra76 : RowsAt 76 := by
  intro q hq pc i lk hf
  cases (show gMt[76]? = some (({ cls := "OutwardDoors", name := "hour", desc := "()I" } : Jvm.MethodName), prog_1_method_36_code, 1, (Option.some Jvm.ClassFile.FieldType.int)) from rfl).symm.trans hq
  have e : ini? (({ cls := "OutwardDoors", name := "hour", desc := "()I" } : Jvm.MethodName), prog_1_method_36_code, 1, (Option.some Jvm.ClassFile.FieldType.int)) = false := by decide
  rw [e]
  exact rows_of ck76 (by decide +kernel) rfl hf
set_option maxRecDepth 100000 in
theorem ra77 : RowsAt 77 := by
  intro q hq pc i lk hf
  cases (show gMt[77]? = some (({ cls := "OutwardDoors$Plan", name := "hour", desc := "(I)I" } : Jvm.MethodName), prog_5_method_11_code, 3, (Option.some Jvm.ClassFile.FieldType.int)) from rfl).symm.trans hq
  have e : ini? (({ cls := "OutwardDoors$Plan", name := "hour", desc := "(I)I" } : Jvm.MethodName), prog_5_method_11_code, 3, (Option.some Jvm.ClassFile.FieldType.int)) = false := by decide
  rw [e]
  exact rows_of ck77 (by decide +kernel) rfl hf
set_option maxRecDepth 100000 in
theorem ra78 : RowsAt 78 := by
  intro q hq pc i lk hf
  cases (show gMt[78]? = some (({ cls := "OutwardDoors$Plan", name := "step", desc := "(III)I" } : Jvm.MethodName), prog_5_method_17_code, 7, (Option.some Jvm.ClassFile.FieldType.int)) from rfl).symm.trans hq
  have e : ini? (({ cls := "OutwardDoors$Plan", name := "step", desc := "(III)I" } : Jvm.MethodName), prog_5_method_17_code, 7, (Option.some Jvm.ClassFile.FieldType.int)) = false := by decide
  rw [e]
  exact rows_of ck78 (by decide +kernel) rfl hf
set_option maxRecDepth 100000 in
theorem ra79 : RowsAt 79 := by
  intro q hq pc i lk hf
  cases (show gMt[79]? = some (({ cls := "OutwardDoors", name := "room", desc := "(II)I" } : Jvm.MethodName), prog_1_method_8_code, 3, (Option.some Jvm.ClassFile.FieldType.int)) from rfl).symm.trans hq
  have e : ini? (({ cls := "OutwardDoors", name := "room", desc := "(II)I" } : Jvm.MethodName), prog_1_method_8_code, 3, (Option.some Jvm.ClassFile.FieldType.int)) = false := by decide
  rw [e]
  exact rows_of ck79 (by decide +kernel) rfl hf
set_option maxRecDepth 100000 in
theorem ra80 : RowsAt 80 := by
  intro q hq pc i lk hf
  cases (show gMt[80]? = some (({ cls := "OutwardDoors", name := "isRoom", desc := "(I)Z" } : Jvm.MethodName), prog_1_method_33_code, 2, (Option.some Jvm.ClassFile.FieldType.boolean)) from rfl).symm.trans hq
  have e : ini? (({ cls := "OutwardDoors", name := "isRoom", desc := "(I)Z" } : Jvm.MethodName), prog_1_method_33_code, 2, (Option.some Jvm.ClassFile.FieldType.boolean)) = false := by decide
  rw [e]
  exact rows_of ck80 (by decide +kernel) rfl hf
set_option maxRecDepth 100000 in
theorem ra81 : RowsAt 81 := by
  intro q hq pc i lk hf
  cases (show gMt[81]? = some (({ cls := "OutwardDoors$World", name := "peopleIn", desc := "(II)I" } : Jvm.MethodName), prog_12_method_6_code, 5, (Option.some Jvm.ClassFile.FieldType.int)) from rfl).symm.trans hq
  have e : ini? (({ cls := "OutwardDoors$World", name := "peopleIn", desc := "(II)I" } : Jvm.MethodName), prog_12_method_6_code, 5, (Option.some Jvm.ClassFile.FieldType.int)) = false := by decide
  rw [e]
  exact rows_of ck81 (by decide +kernel) rfl hf
set_option maxRecDepth 100000 in
theorem ra82 : RowsAt 82 := by
  intro q hq pc i lk hf
  cases (show gMt[82]? = some (({ cls := "OutwardDoors$Plan", name := "outside", desc := "(II)I" } : Jvm.MethodName), prog_5_method_18_code, 6, (Option.some Jvm.ClassFile.FieldType.int)) from rfl).symm.trans hq
  have e : ini? (({ cls := "OutwardDoors$Plan", name := "outside", desc := "(II)I" } : Jvm.MethodName), prog_5_method_18_code, 6, (Option.some Jvm.ClassFile.FieldType.int)) = false := by decide
  rw [e]
  exact rows_of ck82 (by decide +kernel) rfl hf
set_option maxRecDepth 100000 in
theorem ra83 : RowsAt 83 := by
  intro q hq pc i lk hf
  cases (show gMt[83]? = some (({ cls := "OutwardDoors", name := "door", desc := "(II)I" } : Jvm.MethodName), prog_1_method_9_code, 4, (Option.some Jvm.ClassFile.FieldType.int)) from rfl).symm.trans hq
  have e : ini? (({ cls := "OutwardDoors", name := "door", desc := "(II)I" } : Jvm.MethodName), prog_1_method_9_code, 4, (Option.some Jvm.ClassFile.FieldType.int)) = false := by decide
  rw [e]
  exact rows_of ck83 (by decide +kernel) rfl hf
set_option maxRecDepth 100000 in
theorem ra84 : RowsAt 84 := by
  intro q hq pc i lk hf
  cases (show gMt[84]? = some (({ cls := "OutwardDoors", name := "isDoor", desc := "(I)Z" } : Jvm.MethodName), prog_1_method_34_code, 2, (Option.some Jvm.ClassFile.FieldType.boolean)) from rfl).symm.trans hq
  have e : ini? (({ cls := "OutwardDoors", name := "isDoor", desc := "(I)Z" } : Jvm.MethodName), prog_1_method_34_code, 2, (Option.some Jvm.ClassFile.FieldType.boolean)) = false := by decide
  rw [e]
  exact rows_of ck84 (by decide +kernel) rfl hf
set_option maxRecDepth 100000 in
theorem ra85 : RowsAt 85 := by
  intro q hq pc i lk hf
  cases (show gMt[85]? = some (({ cls := "OutwardDoors", name := "moment", desc := "()I" } : Jvm.MethodName), prog_1_method_10_code, 1, (Option.some Jvm.ClassFile.FieldType.int)) from rfl).symm.trans hq
  have e : ini? (({ cls := "OutwardDoors", name := "moment", desc := "()I" } : Jvm.MethodName), prog_1_method_10_code, 1, (Option.some Jvm.ClassFile.FieldType.int)) = false := by decide
  rw [e]
  exact rows_of ck85 (by decide +kernel) rfl hf
set_option maxRecDepth 100000 in
theorem ra86 : RowsAt 86 := by
  intro q hq pc i lk hf
  cases (show gMt[86]? = some (({ cls := "OutwardDoors", name := "hasCastle", desc := "()Z" } : Jvm.MethodName), prog_1_method_31_code, 1, (Option.some Jvm.ClassFile.FieldType.boolean)) from rfl).symm.trans hq
  have e : ini? (({ cls := "OutwardDoors", name := "hasCastle", desc := "()Z" } : Jvm.MethodName), prog_1_method_31_code, 1, (Option.some Jvm.ClassFile.FieldType.boolean)) = false := by decide
  rw [e]
  exact rows_of ck86 (by decide +kernel) rfl hf
set_option maxRecDepth 100000 in
theorem ra87 : RowsAt 87 := by
  intro q hq pc i lk hf
  cases (show gMt[87]? = some (({ cls := "OutwardDoors", name := "remember", desc := "()V" } : Jvm.MethodName), prog_1_method_38_code, 1, (Option.none : Option Jvm.ClassFile.FieldType)) from rfl).symm.trans hq
  have e : ini? (({ cls := "OutwardDoors", name := "remember", desc := "()V" } : Jvm.MethodName), prog_1_method_38_code, 1, (Option.none : Option Jvm.ClassFile.FieldType)) = false := by decide
  rw [e]
  exact rows_of ck87 (by decide +kernel) rfl hf
set_option maxRecDepth 100000 in
theorem ra88 : RowsAt 88 := by
  intro q hq pc i lk hf
  cases (show gMt[88]? = some (({ cls := "OutwardDoors$World", name := "copyFrom", desc := "(LOutwardDoors$World;)V" } : Jvm.MethodName), prog_12_method_3_code, 2, (Option.none : Option Jvm.ClassFile.FieldType)) from rfl).symm.trans hq
  have e : ini? (({ cls := "OutwardDoors$World", name := "copyFrom", desc := "(LOutwardDoors$World;)V" } : Jvm.MethodName), prog_12_method_3_code, 2, (Option.none : Option Jvm.ClassFile.FieldType)) = false := by decide
  rw [e]
  exact rows_of ck88 (by decide +kernel) rfl hf
set_option maxRecDepth 100000 in
theorem ra89 : RowsAt 89 := by
  intro q hq pc i lk hf
  cases (show gMt[89]? = some (({ cls := "OutwardDoors", name := "ruleOf", desc := "(I)LOutwardDoors$Rule;" } : Jvm.MethodName), prog_1_method_37_code, 2, (Option.some (Jvm.ClassFile.FieldType.object "OutwardDoors$Rule"))) from rfl).symm.trans hq
  have e : ini? (({ cls := "OutwardDoors", name := "ruleOf", desc := "(I)LOutwardDoors$Rule;" } : Jvm.MethodName), prog_1_method_37_code, 2, (Option.some (Jvm.ClassFile.FieldType.object "OutwardDoors$Rule"))) = false := by decide
  rw [e]
  exact rows_of ck89 (by decide +kernel) rfl hf
set_option maxRecDepth 100000 in
theorem ra90 : RowsAt 90 := by
  intro q hq pc i lk hf
  cases (show gMt[90]? = some (({ cls := "OutwardDoors$Mover", name := "advance", desc := "(LOutwardDoors$Plan;LOutwardDoors$World;LOutwardDoors$Rule;)V" } : Jvm.MethodName), prog_3_method_2_code, 6, (Option.none : Option Jvm.ClassFile.FieldType)) from rfl).symm.trans hq
  have e : ini? (({ cls := "OutwardDoors$Mover", name := "advance", desc := "(LOutwardDoors$Plan;LOutwardDoors$World;LOutwardDoors$Rule;)V" } : Jvm.MethodName), prog_3_method_2_code, 6, (Option.none : Option Jvm.ClassFile.FieldType)) = false := by decide
  rw [e]
  exact rows_of ck90 (by decide +kernel) rfl hf
set_option maxRecDepth 100000 in
theorem ra91 : RowsAt 91 := by
  intro q hq pc i lk hf
  cases (show gMt[91]? = some (({ cls := "OutwardDoors$Mover", name := "tellWords", desc := "(LOutwardDoors$Plan;LOutwardDoors$World;I)V" } : Jvm.MethodName), prog_3_method_3_code, 9, (Option.none : Option Jvm.ClassFile.FieldType)) from rfl).symm.trans hq
  have e : ini? (({ cls := "OutwardDoors$Mover", name := "tellWords", desc := "(LOutwardDoors$Plan;LOutwardDoors$World;I)V" } : Jvm.MethodName), prog_3_method_3_code, 9, (Option.none : Option Jvm.ClassFile.FieldType)) = false := by decide
  rw [e]
  exact rows_of ck91 (by decide +kernel) rfl hf
set_option maxRecDepth 100000 in
theorem ra92 : RowsAt 92 := by
  intro q hq pc i lk hf
  cases (show gMt[92]? = some (({ cls := "OutwardDoors$Rule", name := "will", desc := "([I)J" } : Jvm.MethodName), prog_7_method_7_code, 6, (Option.some Jvm.ClassFile.FieldType.long)) from rfl).symm.trans hq
  have e : ini? (({ cls := "OutwardDoors$Rule", name := "will", desc := "([I)J" } : Jvm.MethodName), prog_7_method_7_code, 6, (Option.some Jvm.ClassFile.FieldType.long)) = false := by decide
  rw [e]
  exact rows_of ck92 (by decide +kernel) rfl hf
set_option maxRecDepth 100000 in
theorem ra93 : RowsAt 93 := by
  intro q hq pc i lk hf
  cases (show gMt[93]? = some (({ cls := "OutwardDoors$Rule", name := "worth", desc := "(II[I)J" } : Jvm.MethodName), prog_7_method_8_code, 8, (Option.some Jvm.ClassFile.FieldType.long)) from rfl).symm.trans hq
  have e : ini? (({ cls := "OutwardDoors$Rule", name := "worth", desc := "(II[I)J" } : Jvm.MethodName), prog_7_method_8_code, 8, (Option.some Jvm.ClassFile.FieldType.long)) = false := by decide
  rw [e]
  exact rows_of ck93 (by decide +kernel) rfl hf
set_option maxRecDepth 100000 in
theorem ra94 : RowsAt 94 := by
  intro q hq pc i lk hf
  cases (show gMt[94]? = some (({ cls := "OutwardDoors$Rule", name := "wordAt", desc := "([II)J" } : Jvm.MethodName), prog_7_method_9_code, 2, (Option.some Jvm.ClassFile.FieldType.long)) from rfl).symm.trans hq
  have e : ini? (({ cls := "OutwardDoors$Rule", name := "wordAt", desc := "([II)J" } : Jvm.MethodName), prog_7_method_9_code, 2, (Option.some Jvm.ClassFile.FieldType.long)) = false := by decide
  rw [e]
  exact rows_of ck94 (by decide +kernel) rfl hf
set_option maxRecDepth 100000 in
theorem ra95 : RowsAt 95 := by
  intro q hq pc i lk hf
  cases (show gMt[95]? = some (({ cls := "OutwardDoors$Rule", name := "joined", desc := "(IJJ)J" } : Jvm.MethodName), prog_7_method_10_code, 5, (Option.some Jvm.ClassFile.FieldType.long)) from rfl).symm.trans hq
  have e : ini? (({ cls := "OutwardDoors$Rule", name := "joined", desc := "(IJJ)J" } : Jvm.MethodName), prog_7_method_10_code, 5, (Option.some Jvm.ClassFile.FieldType.long)) = false := by decide
  rw [e]
  exact rows_of ck95 (by decide +kernel) rfl hf
set_option maxRecDepth 100000 in
theorem ra96 : RowsAt 96 := by
  intro q hq pc i lk hf
  cases (show gMt[96]? = some (({ cls := "OutwardDoors$Mover", name := "target", desc := "(LOutwardDoors$Plan;LOutwardDoors$World;IJ)I" } : Jvm.MethodName), prog_3_method_4_code, 7, (Option.some Jvm.ClassFile.FieldType.int)) from rfl).symm.trans hq
  have e : ini? (({ cls := "OutwardDoors$Mover", name := "target", desc := "(LOutwardDoors$Plan;LOutwardDoors$World;IJ)I" } : Jvm.MethodName), prog_3_method_4_code, 7, (Option.some Jvm.ClassFile.FieldType.int)) = false := by decide
  rw [e]
  exact rows_of ck96 (by decide +kernel) rfl hf
set_option maxRecDepth 100000 in
theorem ra97 : RowsAt 97 := by
  intro q hq pc i lk hf
  cases (show gMt[97]? = some (({ cls := "OutwardDoors$Plan", name := "doorsOut", desc := "(II)I" } : Jvm.MethodName), prog_5_method_15_code, 3, (Option.some Jvm.ClassFile.FieldType.int)) from rfl).symm.trans hq
  have e : ini? (({ cls := "OutwardDoors$Plan", name := "doorsOut", desc := "(II)I" } : Jvm.MethodName), prog_5_method_15_code, 3, (Option.some Jvm.ClassFile.FieldType.int)) = false := by decide
  rw [e]
  exact rows_of ck97 (by decide +kernel) rfl hf
set_option maxRecDepth 100000 in
theorem ra98 : RowsAt 98 := by
  intro q hq pc i lk hf
  cases (show gMt[98]? = some (({ cls := "OutwardDoors", name := "firstOf", desc := "(I)I" } : Jvm.MethodName), prog_1_method_46_code, 1, (Option.some Jvm.ClassFile.FieldType.int)) from rfl).symm.trans hq
  have e : ini? (({ cls := "OutwardDoors", name := "firstOf", desc := "(I)I" } : Jvm.MethodName), prog_1_method_46_code, 1, (Option.some Jvm.ClassFile.FieldType.int)) = false := by decide
  rw [e]
  exact rows_of ck98 (by decide +kernel) rfl hf
set_option maxRecDepth 100000 in
theorem ra99 : RowsAt 99 := by
  intro q hq pc i lk hf
  cases (show gMt[99]? = some (({ cls := "java/lang/Integer", name := "bitCount", desc := "(I)I" } : Jvm.MethodName), prog_15_method_49_code, 1, (Option.some Jvm.ClassFile.FieldType.int)) from rfl).symm.trans hq
  have e : ini? (({ cls := "java/lang/Integer", name := "bitCount", desc := "(I)I" } : Jvm.MethodName), prog_15_method_49_code, 1, (Option.some Jvm.ClassFile.FieldType.int)) = false := by decide
  rw [e]
  exact rows_of ck99 (by decide +kernel) rfl hf
set_option maxRecDepth 100000 in
theorem ra100 : RowsAt 100 := by
  intro q hq pc i lk hf
  cases (show gMt[100]? = some (({ cls := "OutwardDoors$Mover", name := "findDoor", desc := "(LOutwardDoors$Plan;LOutwardDoors$World;I)V" } : Jvm.MethodName), prog_3_method_5_code, 5, (Option.none : Option Jvm.ClassFile.FieldType)) from rfl).symm.trans hq
  have e : ini? (({ cls := "OutwardDoors$Mover", name := "findDoor", desc := "(LOutwardDoors$Plan;LOutwardDoors$World;I)V" } : Jvm.MethodName), prog_3_method_5_code, 5, (Option.none : Option Jvm.ClassFile.FieldType)) = false := by decide
  rw [e]
  exact rows_of ck100 (by decide +kernel) rfl hf
set_option maxRecDepth 100000 in
theorem ra101 : RowsAt 101 := by
  intro q hq pc i lk hf
  cases (show gMt[101]? = some (({ cls := "OutwardDoors$Mover", name := "goOut", desc := "(LOutwardDoors$Plan;LOutwardDoors$World;)V" } : Jvm.MethodName), prog_3_method_6_code, 4, (Option.none : Option Jvm.ClassFile.FieldType)) from rfl).symm.trans hq
  have e : ini? (({ cls := "OutwardDoors$Mover", name := "goOut", desc := "(LOutwardDoors$Plan;LOutwardDoors$World;)V" } : Jvm.MethodName), prog_3_method_6_code, 4, (Option.none : Option Jvm.ClassFile.FieldType)) = false := by decide
  rw [e]
  exact rows_of ck101 (by decide +kernel) rfl hf
set_option maxRecDepth 100000 in
theorem ra102 : RowsAt 102 := by
  intro q hq pc i lk hf
  cases (show gMt[102]? = some (({ cls := "OutwardDoors$World", name := "goOut", desc := "(II)V" } : Jvm.MethodName), prog_12_method_4_code, 3, (Option.none : Option Jvm.ClassFile.FieldType)) from rfl).symm.trans hq
  have e : ini? (({ cls := "OutwardDoors$World", name := "goOut", desc := "(II)V" } : Jvm.MethodName), prog_12_method_4_code, 3, (Option.none : Option Jvm.ClassFile.FieldType)) = false := by decide
  rw [e]
  exact rows_of ck102 (by decide +kernel) rfl hf
set_option maxRecDepth 100000 in
theorem ra103 : RowsAt 103 := by
  intro q hq pc i lk hf
  cases (show gMt[103]? = some (({ cls := "OutwardDoors$Mover", name := "comeIn", desc := "(LOutwardDoors$Plan;LOutwardDoors$World;)V" } : Jvm.MethodName), prog_3_method_7_code, 5, (Option.none : Option Jvm.ClassFile.FieldType)) from rfl).symm.trans hq
  have e : ini? (({ cls := "OutwardDoors$Mover", name := "comeIn", desc := "(LOutwardDoors$Plan;LOutwardDoors$World;)V" } : Jvm.MethodName), prog_3_method_7_code, 5, (Option.none : Option Jvm.ClassFile.FieldType)) = false := by decide
  rw [e]
  exact rows_of ck103 (by decide +kernel) rfl hf
set_option maxRecDepth 100000 in
theorem ra104 : RowsAt 104 := by
  intro q hq pc i lk hf
  cases (show gMt[104]? = some (({ cls := "OutwardDoors$Mover", name := "takeOpener", desc := "(II)I" } : Jvm.MethodName), prog_3_method_8_code, 4, (Option.some Jvm.ClassFile.FieldType.int)) from rfl).symm.trans hq
  have e : ini? (({ cls := "OutwardDoors$Mover", name := "takeOpener", desc := "(II)I" } : Jvm.MethodName), prog_3_method_8_code, 4, (Option.some Jvm.ClassFile.FieldType.int)) = false := by decide
  rw [e]
  exact rows_of ck104 (by decide +kernel) rfl hf
set_option maxRecDepth 100000 in
theorem ra105 : RowsAt 105 := by
  intro q hq pc i lk hf
  cases (show gMt[105]? = some (({ cls := "OutwardDoors$World", name := "comeIn", desc := "(III)V" } : Jvm.MethodName), prog_12_method_5_code, 4, (Option.none : Option Jvm.ClassFile.FieldType)) from rfl).symm.trans hq
  have e : ini? (({ cls := "OutwardDoors$World", name := "comeIn", desc := "(III)V" } : Jvm.MethodName), prog_12_method_5_code, 4, (Option.none : Option Jvm.ClassFile.FieldType)) = false := by decide
  rw [e]
  exact rows_of ck105 (by decide +kernel) rfl hf
set_option maxRecDepth 100000 in
theorem ra106 : RowsAt 106 := by
  intro q hq pc i lk hf
  cases (show gMt[106]? = some (({ cls := "OutwardDoors", name := "aim", desc := "(II)I" } : Jvm.MethodName), prog_1_method_11_code, 4, (Option.some Jvm.ClassFile.FieldType.int)) from rfl).symm.trans hq
  have e : ini? (({ cls := "OutwardDoors", name := "aim", desc := "(II)I" } : Jvm.MethodName), prog_1_method_11_code, 4, (Option.some Jvm.ClassFile.FieldType.int)) = false := by decide
  rw [e]
  exact rows_of ck106 (by decide +kernel) rfl hf
set_option maxRecDepth 100000 in
theorem ra107 : RowsAt 107 := by
  intro q hq pc i lk hf
  cases (show gMt[107]? = some (({ cls := "OutwardDoors", name := "send", desc := "(III)Z" } : Jvm.MethodName), prog_1_method_12_code, 6, (Option.some Jvm.ClassFile.FieldType.boolean)) from rfl).symm.trans hq
  have e : ini? (({ cls := "OutwardDoors", name := "send", desc := "(III)Z" } : Jvm.MethodName), prog_1_method_12_code, 6, (Option.some Jvm.ClassFile.FieldType.boolean)) = false := by decide
  rw [e]
  exact rows_of ck107 (by decide +kernel) rfl hf
set_option maxRecDepth 100000 in
theorem ra108 : RowsAt 108 := by
  intro q hq pc i lk hf
  cases (show gMt[108]? = some (({ cls := "OutwardDoors", name := "undo", desc := "()I" } : Jvm.MethodName), prog_1_method_13_code, 1, (Option.some Jvm.ClassFile.FieldType.int)) from rfl).symm.trans hq
  have e : ini? (({ cls := "OutwardDoors", name := "undo", desc := "()I" } : Jvm.MethodName), prog_1_method_13_code, 1, (Option.some Jvm.ClassFile.FieldType.int)) = false := by decide
  rw [e]
  exact rows_of ck108 (by decide +kernel) rfl hf
set_option maxRecDepth 100000 in
theorem ra109 : RowsAt 109 := by
  intro q hq pc i lk hf
  cases (show gMt[109]? = some (({ cls := "OutwardDoors", name := "ahead", desc := "(II)I" } : Jvm.MethodName), prog_1_method_14_code, 5, (Option.some Jvm.ClassFile.FieldType.int)) from rfl).symm.trans hq
  have e : ini? (({ cls := "OutwardDoors", name := "ahead", desc := "(II)I" } : Jvm.MethodName), prog_1_method_14_code, 5, (Option.some Jvm.ClassFile.FieldType.int)) = false := by decide
  rw [e]
  exact rows_of ck109 (by decide +kernel) rfl hf
set_option maxRecDepth 100000 in
theorem ra110 : RowsAt 110 := by
  intro q hq pc i lk hf
  cases (show gMt[110]? = some (({ cls := "OutwardDoors", name := "comes", desc := "(I)I" } : Jvm.MethodName), prog_1_method_15_code, 4, (Option.some Jvm.ClassFile.FieldType.int)) from rfl).symm.trans hq
  have e : ini? (({ cls := "OutwardDoors", name := "comes", desc := "(I)I" } : Jvm.MethodName), prog_1_method_15_code, 4, (Option.some Jvm.ClassFile.FieldType.int)) = false := by decide
  rw [e]
  exact rows_of ck110 (by decide +kernel) rfl hf
set_option maxRecDepth 100000 in
theorem ra111 : RowsAt 111 := by
  intro q hq pc i lk hf
  cases (show gMt[111]? = some (({ cls := "OutwardDoors", name := "fewest", desc := "(I)I" } : Jvm.MethodName), prog_1_method_16_code, 2, (Option.some Jvm.ClassFile.FieldType.int)) from rfl).symm.trans hq
  have e : ini? (({ cls := "OutwardDoors", name := "fewest", desc := "(I)I" } : Jvm.MethodName), prog_1_method_16_code, 2, (Option.some Jvm.ClassFile.FieldType.int)) = false := by decide
  rw [e]
  exact rows_of ck111 (by decide +kernel) rfl hf
set_option maxRecDepth 100000 in
theorem ra112 : RowsAt 112 := by
  intro q hq pc i lk hf
  cases (show gMt[112]? = some (({ cls := "OutwardDoors", name := "isSet", desc := "(I)Z" } : Jvm.MethodName), prog_1_method_35_code, 2, (Option.some Jvm.ClassFile.FieldType.boolean)) from rfl).symm.trans hq
  have e : ini? (({ cls := "OutwardDoors", name := "isSet", desc := "(I)Z" } : Jvm.MethodName), prog_1_method_35_code, 2, (Option.some Jvm.ClassFile.FieldType.boolean)) = false := by decide
  rw [e]
  exact rows_of ck112 (by decide +kernel) rfl hf
set_option maxRecDepth 100000 in
theorem ra113 : RowsAt 113 := by
  intro q hq pc i lk hf
  cases (show gMt[113]? = some (({ cls := "OutwardDoors", name := "searchFor", desc := "(II)V" } : Jvm.MethodName), prog_1_method_39_code, 7, (Option.none : Option Jvm.ClassFile.FieldType)) from rfl).symm.trans hq
  have e : ini? (({ cls := "OutwardDoors", name := "searchFor", desc := "(II)V" } : Jvm.MethodName), prog_1_method_39_code, 7, (Option.none : Option Jvm.ClassFile.FieldType)) = false := by decide
  rw [e]
  exact rows_of ck113 (by decide +kernel) rfl hf
set_option maxRecDepth 100000 in
theorem ra114 : RowsAt 114 := by
  intro q hq pc i lk hf
  cases (show gMt[114]? = some (({ cls := "OutwardDoors$Search", name := "begin", desc := "(LOutwardDoors$Plan;III)V" } : Jvm.MethodName), prog_10_method_2_code, 6, (Option.none : Option Jvm.ClassFile.FieldType)) from rfl).symm.trans hq
  have e : ini? (({ cls := "OutwardDoors$Search", name := "begin", desc := "(LOutwardDoors$Plan;III)V" } : Jvm.MethodName), prog_10_method_2_code, 6, (Option.none : Option Jvm.ClassFile.FieldType)) = false := by decide
  rw [e]
  exact rows_of ck114 (by decide +kernel) rfl hf
set_option maxRecDepth 100000 in
theorem ra115 : RowsAt 115 := by
  intro q hq pc i lk hf
  cases (show gMt[115]? = some (({ cls := "OutwardDoors$Passings", name := "prepare", desc := "(LOutwardDoors$Plan;III)V" } : Jvm.MethodName), prog_4_method_2_code, 5, (Option.none : Option Jvm.ClassFile.FieldType)) from rfl).symm.trans hq
  have e : ini? (({ cls := "OutwardDoors$Passings", name := "prepare", desc := "(LOutwardDoors$Plan;III)V" } : Jvm.MethodName), prog_4_method_2_code, 5, (Option.none : Option Jvm.ClassFile.FieldType)) = false := by decide
  rw [e]
  exact rows_of ck115 (by decide +kernel) rfl hf
set_option maxRecDepth 100000 in
theorem ra116 : RowsAt 116 := by
  intro q hq pc i lk hf
  cases (show gMt[116]? = some (({ cls := "OutwardDoors$Passings", name := "states", desc := "()I" } : Jvm.MethodName), prog_4_method_4_code, 1, (Option.some Jvm.ClassFile.FieldType.int)) from rfl).symm.trans hq
  have e : ini? (({ cls := "OutwardDoors$Passings", name := "states", desc := "()I" } : Jvm.MethodName), prog_4_method_4_code, 1, (Option.some Jvm.ClassFile.FieldType.int)) = false := by decide
  rw [e]
  exact rows_of ck116 (by decide +kernel) rfl hf
set_option maxRecDepth 100000 in
theorem ra117 : RowsAt 117 := by
  intro q hq pc i lk hf
  cases (show gMt[117]? = some (({ cls := "OutwardDoors$World", name := "packed", desc := "(I)I" } : Jvm.MethodName), prog_12_method_8_code, 4, (Option.some Jvm.ClassFile.FieldType.int)) from rfl).symm.trans hq
  have e : ini? (({ cls := "OutwardDoors$World", name := "packed", desc := "(I)I" } : Jvm.MethodName), prog_12_method_8_code, 4, (Option.some Jvm.ClassFile.FieldType.int)) = false := by decide
  rw [e]
  exact rows_of ck117 (by decide +kernel) rfl hf
set_option maxRecDepth 100000 in
theorem ra118 : RowsAt 118 := by
  intro q hq pc i lk hf
  cases (show gMt[118]? = some (({ cls := "OutwardDoors$Search", name := "plant", desc := "(I)V" } : Jvm.MethodName), prog_10_method_3_code, 2, (Option.none : Option Jvm.ClassFile.FieldType)) from rfl).symm.trans hq
  have e : ini? (({ cls := "OutwardDoors$Search", name := "plant", desc := "(I)V" } : Jvm.MethodName), prog_10_method_3_code, 2, (Option.none : Option Jvm.ClassFile.FieldType)) = false := by decide
  rw [e]
  exact rows_of ck118 (by decide +kernel) rfl hf
set_option maxRecDepth 100000 in
theorem ra119 : RowsAt 119 := by
  intro q hq pc i lk hf
  cases (show gMt[119]? = some (({ cls := "OutwardDoors$Search", name := "keep", desc := "(II)V" } : Jvm.MethodName), prog_10_method_4_code, 3, (Option.none : Option Jvm.ClassFile.FieldType)) from rfl).symm.trans hq
  have e : ini? (({ cls := "OutwardDoors$Search", name := "keep", desc := "(II)V" } : Jvm.MethodName), prog_10_method_4_code, 3, (Option.none : Option Jvm.ClassFile.FieldType)) = false := by decide
  rw [e]
  exact rows_of ck119 (by decide +kernel) rfl hf
set_option maxRecDepth 100000 in
theorem ra120 : RowsAt 120 := by
  intro q hq pc i lk hf
  cases (show gMt[120]? = some (({ cls := "OutwardDoors$Search", name := "run", desc := "(II)V" } : Jvm.MethodName), prog_10_method_6_code, 4, (Option.none : Option Jvm.ClassFile.FieldType)) from rfl).symm.trans hq
  have e : ini? (({ cls := "OutwardDoors$Search", name := "run", desc := "(II)V" } : Jvm.MethodName), prog_10_method_6_code, 4, (Option.none : Option Jvm.ClassFile.FieldType)) = false := by decide
  rw [e]
  exact rows_of ck120 (by decide +kernel) rfl hf
set_option maxRecDepth 100000 in
theorem ra121 : RowsAt 121 := by
  intro q hq pc i lk hf
  cases (show gMt[121]? = some (({ cls := "OutwardDoors$Passings", name := "spread", desc := "(I)V" } : Jvm.MethodName), prog_4_method_11_code, 5, (Option.none : Option Jvm.ClassFile.FieldType)) from rfl).symm.trans hq
  have e : ini? (({ cls := "OutwardDoors$Passings", name := "spread", desc := "(I)V" } : Jvm.MethodName), prog_4_method_11_code, 5, (Option.none : Option Jvm.ClassFile.FieldType)) = false := by decide
  rw [e]
  exact rows_of ck121 (by decide +kernel) rfl hf
set_option maxRecDepth 100000 in
theorem ra122 : RowsAt 122 := by
  intro q hq pc i lk hf
  cases (show gMt[122]? = some (({ cls := "OutwardDoors$Passings", name := "roomOf", desc := "(II)I" } : Jvm.MethodName), prog_4_method_5_code, 2, (Option.some Jvm.ClassFile.FieldType.int)) from rfl).symm.trans hq
  have e : ini? (({ cls := "OutwardDoors$Passings", name := "roomOf", desc := "(II)I" } : Jvm.MethodName), prog_4_method_5_code, 2, (Option.some Jvm.ClassFile.FieldType.int)) = false := by decide
  rw [e]
  exact rows_of ck122 (by decide +kernel) rfl hf
set_option maxRecDepth 100000 in
theorem ra123 : RowsAt 123 := by
  intro q hq pc i lk hf
  cases (show gMt[123]? = some (({ cls := "OutwardDoors$Passings", name := "passOut", desc := "(III)V" } : Jvm.MethodName), prog_4_method_12_code, 6, (Option.none : Option Jvm.ClassFile.FieldType)) from rfl).symm.trans hq
  have e : ini? (({ cls := "OutwardDoors$Passings", name := "passOut", desc := "(III)V" } : Jvm.MethodName), prog_4_method_12_code, 6, (Option.none : Option Jvm.ClassFile.FieldType)) = false := by decide
  rw [e]
  exact rows_of ck123 (by decide +kernel) rfl hf
set_option maxRecDepth 100000 in
theorem ra124 : RowsAt 124 := by
  intro q hq pc i lk hf
  cases (show gMt[124]? = some (({ cls := "OutwardDoors$Passings", name := "moved", desc := "(III)I" } : Jvm.MethodName), prog_4_method_6_code, 3, (Option.some Jvm.ClassFile.FieldType.int)) from rfl).symm.trans hq
  have e : ini? (({ cls := "OutwardDoors$Passings", name := "moved", desc := "(III)I" } : Jvm.MethodName), prog_4_method_6_code, 3, (Option.some Jvm.ClassFile.FieldType.int)) = false := by decide
  rw [e]
  exact rows_of ck124 (by decide +kernel) rfl hf
set_option maxRecDepth 100000 in
theorem ra125 : RowsAt 125 := by
  intro q hq pc i lk hf
  cases (show gMt[125]? = some (({ cls := "OutwardDoors$Passings", name := "labelOf", desc := "(III)I" } : Jvm.MethodName), prog_4_method_7_code, 3, (Option.some Jvm.ClassFile.FieldType.int)) from rfl).symm.trans hq
  have e : ini? (({ cls := "OutwardDoors$Passings", name := "labelOf", desc := "(III)I" } : Jvm.MethodName), prog_4_method_7_code, 3, (Option.some Jvm.ClassFile.FieldType.int)) = false := by decide
  rw [e]
  exact rows_of ck125 (by decide +kernel) rfl hf
set_option maxRecDepth 100000 in
theorem ra126 : RowsAt 126 := by
  intro q hq pc i lk hf
  cases (show gMt[126]? = some (({ cls := "OutwardDoors$Pricer", name := "reach", desc := "(III)V" } : Jvm.MethodName), prog_6_method_5_code, 5, (Option.none : Option Jvm.ClassFile.FieldType)) from rfl).symm.trans hq
  have e : ini? (({ cls := "OutwardDoors$Pricer", name := "reach", desc := "(III)V" } : Jvm.MethodName), prog_6_method_5_code, 5, (Option.none : Option Jvm.ClassFile.FieldType)) = false := by decide
  rw [e]
  exact rows_of ck126 (by decide +kernel) rfl hf
set_option maxRecDepth 100000 in
theorem ra127 : RowsAt 127 := by
  intro q hq pc i lk hf
  cases (show gMt[127]? = some (({ cls := "OutwardDoors$Passings", name := "outOf", desc := "(I)I" } : Jvm.MethodName), prog_4_method_8_code, 1, (Option.some Jvm.ClassFile.FieldType.int)) from rfl).symm.trans hq
  have e : ini? (({ cls := "OutwardDoors$Passings", name := "outOf", desc := "(I)I" } : Jvm.MethodName), prog_4_method_8_code, 1, (Option.some Jvm.ClassFile.FieldType.int)) = false := by decide
  rw [e]
  exact rows_of ck127 (by decide +kernel) rfl hf
set_option maxRecDepth 100000 in
theorem ra128 : RowsAt 128 := by
  intro q hq pc i lk hf
  cases (show gMt[128]? = some (({ cls := "OutwardDoors$Pricer", name := "await", desc := "(II)V" } : Jvm.MethodName), prog_6_method_6_code, 4, (Option.none : Option Jvm.ClassFile.FieldType)) from rfl).symm.trans hq
  have e : ini? (({ cls := "OutwardDoors$Pricer", name := "await", desc := "(II)V" } : Jvm.MethodName), prog_6_method_6_code, 4, (Option.none : Option Jvm.ClassFile.FieldType)) = false := by decide
  rw [e]
  exact rows_of ck128 (by decide +kernel) rfl hf
set_option maxRecDepth 100000 in
theorem ra129 : RowsAt 129 := by
  intro q hq pc i lk hf
  cases (show gMt[129]? = some (({ cls := "OutwardDoors$Pricer", name := "leaveRow", desc := "(I)V" } : Jvm.MethodName), prog_6_method_7_code, 2, (Option.none : Option Jvm.ClassFile.FieldType)) from rfl).symm.trans hq
  have e : ini? (({ cls := "OutwardDoors$Pricer", name := "leaveRow", desc := "(I)V" } : Jvm.MethodName), prog_6_method_7_code, 2, (Option.none : Option Jvm.ClassFile.FieldType)) = false := by decide
  rw [e]
  exact rows_of ck129 (by decide +kernel) rfl hf
set_option maxRecDepth 100000 in
theorem ra130 : RowsAt 130 := by
  intro q hq pc i lk hf
  cases (show gMt[130]? = some (({ cls := "OutwardDoors$Search", name := "reach", desc := "(III)V" } : Jvm.MethodName), prog_10_method_5_code, 4, (Option.none : Option Jvm.ClassFile.FieldType)) from rfl).symm.trans hq
  have e : ini? (({ cls := "OutwardDoors$Search", name := "reach", desc := "(III)V" } : Jvm.MethodName), prog_10_method_5_code, 4, (Option.none : Option Jvm.ClassFile.FieldType)) = false := by decide
  rw [e]
  exact rows_of ck130 (by decide +kernel) rfl hf
set_option maxRecDepth 100000 in
theorem ra131 : RowsAt 131 := by
  intro q hq pc i lk hf
  cases (show gMt[131]? = some (({ cls := "OutwardDoors$Passings", name := "comeInAlone", desc := "(I)V" } : Jvm.MethodName), prog_4_method_13_code, 3, (Option.none : Option Jvm.ClassFile.FieldType)) from rfl).symm.trans hq
  have e : ini? (({ cls := "OutwardDoors$Passings", name := "comeInAlone", desc := "(I)V" } : Jvm.MethodName), prog_4_method_13_code, 3, (Option.none : Option Jvm.ClassFile.FieldType)) = false := by decide
  rw [e]
  exact rows_of ck131 (by decide +kernel) rfl hf
set_option maxRecDepth 100000 in
theorem ra132 : RowsAt 132 := by
  intro q hq pc i lk hf
  cases (show gMt[132]? = some (({ cls := "OutwardDoors$Search", name := "rowLength", desc := "()I" } : Jvm.MethodName), prog_10_method_9_code, 4, (Option.some Jvm.ClassFile.FieldType.int)) from rfl).symm.trans hq
  have e : ini? (({ cls := "OutwardDoors$Search", name := "rowLength", desc := "()I" } : Jvm.MethodName), prog_10_method_9_code, 4, (Option.some Jvm.ClassFile.FieldType.int)) = false := by decide
  rw [e]
  exact rows_of ck132 (by decide +kernel) rfl hf
set_option maxRecDepth 100000 in
theorem ra133 : RowsAt 133 := by
  intro q hq pc i lk hf
  cases (show gMt[133]? = some (({ cls := "OutwardDoors", name := "passing", desc := "(III)I" } : Jvm.MethodName), prog_1_method_17_code, 5, (Option.some Jvm.ClassFile.FieldType.int)) from rfl).symm.trans hq
  have e : ini? (({ cls := "OutwardDoors", name := "passing", desc := "(III)I" } : Jvm.MethodName), prog_1_method_17_code, 5, (Option.some Jvm.ClassFile.FieldType.int)) = false := by decide
  rw [e]
  exact rows_of ck133 (by decide +kernel) rfl hf
set_option maxRecDepth 100000 in
theorem ra134 : RowsAt 134 := by
  intro q hq pc i lk hf
  cases (show gMt[134]? = some (({ cls := "OutwardDoors$Search", name := "labelAt", desc := "(I)I" } : Jvm.MethodName), prog_10_method_11_code, 2, (Option.some Jvm.ClassFile.FieldType.int)) from rfl).symm.trans hq
  have e : ini? (({ cls := "OutwardDoors$Search", name := "labelAt", desc := "(I)I" } : Jvm.MethodName), prog_10_method_11_code, 2, (Option.some Jvm.ClassFile.FieldType.int)) = false := by decide
  rw [e]
  exact rows_of ck134 (by decide +kernel) rfl hf
set_option maxRecDepth 100000 in
theorem ra135 : RowsAt 135 := by
  intro q hq pc i lk hf
  cases (show gMt[135]? = some (({ cls := "OutwardDoors$Search", name := "before", desc := "(I)I" } : Jvm.MethodName), prog_10_method_10_code, 4, (Option.some Jvm.ClassFile.FieldType.int)) from rfl).symm.trans hq
  have e : ini? (({ cls := "OutwardDoors$Search", name := "before", desc := "(I)I" } : Jvm.MethodName), prog_10_method_10_code, 4, (Option.some Jvm.ClassFile.FieldType.int)) = false := by decide
  rw [e]
  exact rows_of ck135 (by decide +kernel) rfl hf
set_option maxRecDepth 100000 in
theorem ra136 : RowsAt 136 := by
  intro q hq pc i lk hf
  cases (show gMt[136]? = some (({ cls := "OutwardDoors$Passings", name := "doorOf", desc := "(I)I" } : Jvm.MethodName), prog_4_method_9_code, 1, (Option.some Jvm.ClassFile.FieldType.int)) from rfl).symm.trans hq
  have e : ini? (({ cls := "OutwardDoors$Passings", name := "doorOf", desc := "(I)I" } : Jvm.MethodName), prog_4_method_9_code, 1, (Option.some Jvm.ClassFile.FieldType.int)) = false := by decide
  rw [e]
  exact rows_of ck136 (by decide +kernel) rfl hf
set_option maxRecDepth 100000 in
theorem ra137 : RowsAt 137 := by
  intro q hq pc i lk hf
  cases (show gMt[137]? = some (({ cls := "OutwardDoors$Passings", name := "inOf", desc := "(I)I" } : Jvm.MethodName), prog_4_method_10_code, 1, (Option.some Jvm.ClassFile.FieldType.int)) from rfl).symm.trans hq
  have e : ini? (({ cls := "OutwardDoors$Passings", name := "inOf", desc := "(I)I" } : Jvm.MethodName), prog_4_method_10_code, 1, (Option.some Jvm.ClassFile.FieldType.int)) = false := by decide
  rw [e]
  exact rows_of ck137 (by decide +kernel) rfl hf
set_option maxRecDepth 100000 in
theorem ra138 : RowsAt 138 := by
  intro q hq pc i lk hf
  cases (show gMt[138]? = some (({ cls := "OutwardDoors", name := "caught", desc := "(I)I" } : Jvm.MethodName), prog_1_method_18_code, 7, (Option.some Jvm.ClassFile.FieldType.int)) from rfl).symm.trans hq
  have e : ini? (({ cls := "OutwardDoors", name := "caught", desc := "(I)I" } : Jvm.MethodName), prog_1_method_18_code, 7, (Option.some Jvm.ClassFile.FieldType.int)) = false := by decide
  rw [e]
  exact rows_of ck138 (by decide +kernel) rfl hf
set_option maxRecDepth 100000 in
theorem ra139 : RowsAt 139 := by
  intro q hq pc i lk hf
  cases (show gMt[139]? = some (({ cls := "OutwardDoors$Search", name := "exhaust", desc := "()V" } : Jvm.MethodName), prog_10_method_7_code, 2, (Option.none : Option Jvm.ClassFile.FieldType)) from rfl).symm.trans hq
  have e : ini? (({ cls := "OutwardDoors$Search", name := "exhaust", desc := "()V" } : Jvm.MethodName), prog_10_method_7_code, 2, (Option.none : Option Jvm.ClassFile.FieldType)) = false := by decide
  rw [e]
  exact rows_of ck139 (by decide +kernel) rfl hf
set_option maxRecDepth 100000 in
theorem ra140 : RowsAt 140 := by
  intro q hq pc i lk hf
  cases (show gMt[140]? = some (({ cls := "OutwardDoors$Search", name := "everReached", desc := "(IIZ)Z" } : Jvm.MethodName), prog_10_method_8_code, 5, (Option.some Jvm.ClassFile.FieldType.boolean)) from rfl).symm.trans hq
  have e : ini? (({ cls := "OutwardDoors$Search", name := "everReached", desc := "(IIZ)Z" } : Jvm.MethodName), prog_10_method_8_code, 5, (Option.some Jvm.ClassFile.FieldType.boolean)) = false := by decide
  rw [e]
  exact rows_of ck140 (by decide +kernel) rfl hf
set_option maxRecDepth 100000 in
theorem ra141 : RowsAt 141 := by
  intro q hq pc i lk hf
  cases (show gMt[141]? = some (({ cls := "OutwardDoors", name := "page", desc := "(II)I" } : Jvm.MethodName), prog_1_method_19_code, 6, (Option.some Jvm.ClassFile.FieldType.int)) from rfl).symm.trans hq
  have e : ini? (({ cls := "OutwardDoors", name := "page", desc := "(II)I" } : Jvm.MethodName), prog_1_method_19_code, 6, (Option.some Jvm.ClassFile.FieldType.int)) = false := by decide
  rw [e]
  exact rows_of ck141 (by decide +kernel) rfl hf
set_option maxRecDepth 100000 in
theorem ra142 : RowsAt 142 := by
  intro q hq pc i lk hf
  cases (show gMt[142]? = some (({ cls := "OutwardDoors$Search", name := "origin", desc := "()I" } : Jvm.MethodName), prog_10_method_12_code, 1, (Option.some Jvm.ClassFile.FieldType.int)) from rfl).symm.trans hq
  have e : ini? (({ cls := "OutwardDoors$Search", name := "origin", desc := "()I" } : Jvm.MethodName), prog_10_method_12_code, 1, (Option.some Jvm.ClassFile.FieldType.int)) = false := by decide
  rw [e]
  exact rows_of ck142 (by decide +kernel) rfl hf
set_option maxRecDepth 100000 in
theorem ra143 : RowsAt 143 := by
  intro q hq pc i lk hf
  cases (show gMt[143]? = some (({ cls := "OutwardDoors", name := "price", desc := "(I)I" } : Jvm.MethodName), prog_1_method_20_code, 2, (Option.some Jvm.ClassFile.FieldType.int)) from rfl).symm.trans hq
  have e : ini? (({ cls := "OutwardDoors", name := "price", desc := "(I)I" } : Jvm.MethodName), prog_1_method_20_code, 2, (Option.some Jvm.ClassFile.FieldType.int)) = false := by decide
  rw [e]
  exact rows_of ck143 (by decide +kernel) rfl hf
set_option maxRecDepth 100000 in
theorem ra144 : RowsAt 144 := by
  intro q hq pc i lk hf
  cases (show gMt[144]? = some (({ cls := "OutwardDoors$Pricer", name := "begin", desc := "(LOutwardDoors$Plan;I)V" } : Jvm.MethodName), prog_6_method_2_code, 3, (Option.none : Option Jvm.ClassFile.FieldType)) from rfl).symm.trans hq
  have e : ini? (({ cls := "OutwardDoors$Pricer", name := "begin", desc := "(LOutwardDoors$Plan;I)V" } : Jvm.MethodName), prog_6_method_2_code, 3, (Option.none : Option Jvm.ClassFile.FieldType)) = false := by decide
  rw [e]
  exact rows_of ck144 (by decide +kernel) rfl hf
set_option maxRecDepth 100000 in
theorem ra145 : RowsAt 145 := by
  intro q hq pc i lk hf
  cases (show gMt[145]? = some (({ cls := "OutwardDoors$Pricer", name := "least", desc := "(LOutwardDoors$World;I)I" } : Jvm.MethodName), prog_6_method_3_code, 4, (Option.some Jvm.ClassFile.FieldType.int)) from rfl).symm.trans hq
  have e : ini? (({ cls := "OutwardDoors$Pricer", name := "least", desc := "(LOutwardDoors$World;I)I" } : Jvm.MethodName), prog_6_method_3_code, 4, (Option.some Jvm.ClassFile.FieldType.int)) = false := by decide
  rw [e]
  exact rows_of ck145 (by decide +kernel) rfl hf
set_option maxRecDepth 100000 in
theorem ra146 : RowsAt 146 := by
  intro q hq pc i lk hf
  cases (show gMt[146]? = some (({ cls := "OutwardDoors$Pricer", name := "settle", desc := "(II)Z" } : Jvm.MethodName), prog_6_method_4_code, 6, (Option.some Jvm.ClassFile.FieldType.boolean)) from rfl).symm.trans hq
  have e : ini? (({ cls := "OutwardDoors$Pricer", name := "settle", desc := "(II)Z" } : Jvm.MethodName), prog_6_method_4_code, 6, (Option.some Jvm.ClassFile.FieldType.boolean)) = false := by decide
  rw [e]
  exact rows_of ck146 (by decide +kernel) rfl hf
set_option maxRecDepth 100000 in
theorem ra147 : RowsAt 147 := by
  intro q hq pc i lk hf
  cases (show gMt[147]? = some (({ cls := "OutwardDoors", name := "turned", desc := "(II)I" } : Jvm.MethodName), prog_1_method_21_code, 3, (Option.some Jvm.ClassFile.FieldType.int)) from rfl).symm.trans hq
  have e : ini? (({ cls := "OutwardDoors", name := "turned", desc := "(II)I" } : Jvm.MethodName), prog_1_method_21_code, 3, (Option.some Jvm.ClassFile.FieldType.int)) = false := by decide
  rw [e]
  exact rows_of ck147 (by decide +kernel) rfl hf
set_option maxRecDepth 100000 in
theorem ra148 : RowsAt 148 := by
  intro q hq pc i lk hf
  cases (show gMt[148]? = some (({ cls := "OutwardDoors", name := "swap", desc := "(I)I" } : Jvm.MethodName), prog_1_method_22_code, 7, (Option.some Jvm.ClassFile.FieldType.int)) from rfl).symm.trans hq
  have e : ini? (({ cls := "OutwardDoors", name := "swap", desc := "(I)I" } : Jvm.MethodName), prog_1_method_22_code, 7, (Option.some Jvm.ClassFile.FieldType.int)) = false := by decide
  rw [e]
  exact rows_of ck148 (by decide +kernel) rfl hf
set_option maxRecDepth 100000 in
theorem ra149 : RowsAt 149 := by
  intro q hq pc i lk hf
  cases (show gMt[149]? = some (({ cls := "OutwardDoors", name := "isNearerAt", desc := "(II)Z" } : Jvm.MethodName), prog_1_method_40_code, 6, (Option.some Jvm.ClassFile.FieldType.boolean)) from rfl).symm.trans hq
  have e : ini? (({ cls := "OutwardDoors", name := "isNearerAt", desc := "(II)Z" } : Jvm.MethodName), prog_1_method_40_code, 6, (Option.some Jvm.ClassFile.FieldType.boolean)) = false := by decide
  rw [e]
  exact rows_of ck149 (by decide +kernel) rfl hf
set_option maxRecDepth 100000 in
theorem ra150 : RowsAt 150 := by
  intro q hq pc i lk hf
  cases (show gMt[150]? = some (({ cls := "OutwardDoors", name := "note", desc := "(III)I" } : Jvm.MethodName), prog_1_method_23_code, 4, (Option.some Jvm.ClassFile.FieldType.int)) from rfl).symm.trans hq
  have e : ini? (({ cls := "OutwardDoors", name := "note", desc := "(III)I" } : Jvm.MethodName), prog_1_method_23_code, 4, (Option.some Jvm.ClassFile.FieldType.int)) = false := by decide
  rw [e]
  exact rows_of ck150 (by decide +kernel) rfl hf
set_option maxRecDepth 100000 in
theorem ra151 : RowsAt 151 := by
  intro q hq pc i lk hf
  cases (show gMt[151]? = some (({ cls := "OutwardDoors$Scene", name := "addNote", desc := "(III)V" } : Jvm.MethodName), prog_9_method_3_code, 4, (Option.none : Option Jvm.ClassFile.FieldType)) from rfl).symm.trans hq
  have e : ini? (({ cls := "OutwardDoors$Scene", name := "addNote", desc := "(III)V" } : Jvm.MethodName), prog_9_method_3_code, 4, (Option.none : Option Jvm.ClassFile.FieldType)) = false := by decide
  rw [e]
  exact rows_of ck151 (by decide +kernel) rfl hf
set_option maxRecDepth 100000 in
theorem ra152 : RowsAt 152 := by
  intro q hq pc i lk hf
  cases (show gMt[152]? = some (({ cls := "OutwardDoors", name := "ruled", desc := "(I)I" } : Jvm.MethodName), prog_1_method_24_code, 5, (Option.some Jvm.ClassFile.FieldType.int)) from rfl).symm.trans hq
  have e : ini? (({ cls := "OutwardDoors", name := "ruled", desc := "(I)I" } : Jvm.MethodName), prog_1_method_24_code, 5, (Option.some Jvm.ClassFile.FieldType.int)) = false := by decide
  rw [e]
  exact rows_of ck152 (by decide +kernel) rfl hf
set_option maxRecDepth 100000 in
theorem ra153 : RowsAt 153 := by
  intro q hq pc i lk hf
  cases (show gMt[153]? = some (({ cls := "OutwardDoors", name := "fitsNotes", desc := "(I)Z" } : Jvm.MethodName), prog_1_method_41_code, 5, (Option.some Jvm.ClassFile.FieldType.boolean)) from rfl).symm.trans hq
  have e : ini? (({ cls := "OutwardDoors", name := "fitsNotes", desc := "(I)Z" } : Jvm.MethodName), prog_1_method_41_code, 5, (Option.some Jvm.ClassFile.FieldType.boolean)) = false := by decide
  rw [e]
  exact rows_of ck153 (by decide +kernel) rfl hf
set_option maxRecDepth 100000 in
theorem ra154 : RowsAt 154 := by
  intro q hq pc i lk hf
  cases (show gMt[154]? = some (({ cls := "OutwardDoors$Scene", name := "lastNoted", desc := "()I" } : Jvm.MethodName), prog_9_method_4_code, 3, (Option.some Jvm.ClassFile.FieldType.int)) from rfl).symm.trans hq
  have e : ini? (({ cls := "OutwardDoors$Scene", name := "lastNoted", desc := "()I" } : Jvm.MethodName), prog_9_method_4_code, 3, (Option.some Jvm.ClassFile.FieldType.int)) = false := by decide
  rw [e]
  exact rows_of ck154 (by decide +kernel) rfl hf
set_option maxRecDepth 100000 in
theorem ra155 : RowsAt 155 := by
  intro q hq pc i lk hf
  cases (show gMt[155]? = some (({ cls := "OutwardDoors$Scene", name := "notesHold", desc := "(ILOutwardDoors$World;)Z" } : Jvm.MethodName), prog_9_method_5_code, 4, (Option.some Jvm.ClassFile.FieldType.boolean)) from rfl).symm.trans hq
  have e : ini? (({ cls := "OutwardDoors$Scene", name := "notesHold", desc := "(ILOutwardDoors$World;)Z" } : Jvm.MethodName), prog_9_method_5_code, 4, (Option.some Jvm.ClassFile.FieldType.boolean)) = false := by decide
  rw [e]
  exact rows_of ck155 (by decide +kernel) rfl hf
set_option maxRecDepth 100000 in
theorem ra156 : RowsAt 156 := by
  intro q hq pc i lk hf
  cases (show gMt[156]? = some (({ cls := "OutwardDoors", name := "look", desc := "(II)I" } : Jvm.MethodName), prog_1_method_25_code, 7, (Option.some Jvm.ClassFile.FieldType.int)) from rfl).symm.trans hq
  have e : ini? (({ cls := "OutwardDoors", name := "look", desc := "(II)I" } : Jvm.MethodName), prog_1_method_25_code, 7, (Option.some Jvm.ClassFile.FieldType.int)) = false := by decide
  rw [e]
  exact rows_of ck156 (by decide +kernel) rfl hf
set_option maxRecDepth 100000 in
theorem ra157 : RowsAt 157 := by
  intro q hq pc i lk hf
  cases (show gMt[157]? = some (({ cls := "OutwardDoors", name := "tallyFitting", desc := "(I)I" } : Jvm.MethodName), prog_1_method_42_code, 4, (Option.some Jvm.ClassFile.FieldType.int)) from rfl).symm.trans hq
  have e : ini? (({ cls := "OutwardDoors", name := "tallyFitting", desc := "(I)I" } : Jvm.MethodName), prog_1_method_42_code, 4, (Option.some Jvm.ClassFile.FieldType.int)) = false := by decide
  rw [e]
  exact rows_of ck157 (by decide +kernel) rfl hf
set_option maxRecDepth 100000 in
theorem ra158 : RowsAt 158 := by
  intro q hq pc i lk hf
  cases (show gMt[158]? = some (({ cls := "OutwardDoors", name := "tallyOne", desc := "(LOutwardDoors$Rule;I)V" } : Jvm.MethodName), prog_1_method_43_code, 4, (Option.none : Option Jvm.ClassFile.FieldType)) from rfl).symm.trans hq
  have e : ini? (({ cls := "OutwardDoors", name := "tallyOne", desc := "(LOutwardDoors$Rule;I)V" } : Jvm.MethodName), prog_1_method_43_code, 4, (Option.none : Option Jvm.ClassFile.FieldType)) = false := by decide
  rw [e]
  exact rows_of ck158 (by decide +kernel) rfl hf
set_option maxRecDepth 100000 in
theorem ra159 : RowsAt 159 := by
  intro q hq pc i lk hf
  cases (show gMt[159]? = some (({ cls := "OutwardDoors", name := "mostAlike", desc := "(I)I" } : Jvm.MethodName), prog_1_method_44_code, 4, (Option.some Jvm.ClassFile.FieldType.int)) from rfl).symm.trans hq
  have e : ini? (({ cls := "OutwardDoors", name := "mostAlike", desc := "(I)I" } : Jvm.MethodName), prog_1_method_44_code, 4, (Option.some Jvm.ClassFile.FieldType.int)) = false := by decide
  rw [e]
  exact rows_of ck159 (by decide +kernel) rfl hf
set_option maxRecDepth 100000 in
theorem ra160 : RowsAt 160 := by
  intro q hq pc i lk hf
  cases (show gMt[160]? = some (({ cls := "OutwardDoors", name := "seed", desc := "(I)I" } : Jvm.MethodName), prog_1_method_26_code, 3, (Option.some Jvm.ClassFile.FieldType.int)) from rfl).symm.trans hq
  have e : ini? (({ cls := "OutwardDoors", name := "seed", desc := "(I)I" } : Jvm.MethodName), prog_1_method_26_code, 3, (Option.some Jvm.ClassFile.FieldType.int)) = false := by decide
  rw [e]
  exact rows_of ck160 (by decide +kernel) rfl hf
set_option maxRecDepth 100000 in
theorem ra161 : RowsAt 161 := by
  intro q hq pc i lk hf
  cases (show gMt[161]? = some (({ cls := "OutwardDoors", name := "days", desc := "(III)I" } : Jvm.MethodName), prog_1_method_27_code, 11, (Option.some Jvm.ClassFile.FieldType.int)) from rfl).symm.trans hq
  have e : ini? (({ cls := "OutwardDoors", name := "days", desc := "(III)I" } : Jvm.MethodName), prog_1_method_27_code, 11, (Option.some Jvm.ClassFile.FieldType.int)) = false := by decide
  rw [e]
  exact rows_of ck161 (by decide +kernel) rfl hf
set_option maxRecDepth 100000 in
theorem ra162 : RowsAt 162 := by
  intro q hq pc i lk hf
  cases (show gMt[162]? = some (({ cls := "OutwardDoors", name := "drawn", desc := "(I)I" } : Jvm.MethodName), prog_1_method_45_code, 1, (Option.some Jvm.ClassFile.FieldType.int)) from rfl).symm.trans hq
  have e : ini? (({ cls := "OutwardDoors", name := "drawn", desc := "(I)I" } : Jvm.MethodName), prog_1_method_45_code, 1, (Option.some Jvm.ClassFile.FieldType.int)) = false := by decide
  rw [e]
  exact rows_of ck162 (by decide +kernel) rfl hf
set_option maxRecDepth 100000 in
theorem ra163 : RowsAt 163 := by
  intro q hq pc i lk hf
  cases (show gMt[163]? = some (({ cls := "OutwardDoors", name := "count", desc := "(I)I" } : Jvm.MethodName), prog_1_method_28_code, 2, (Option.some Jvm.ClassFile.FieldType.int)) from rfl).symm.trans hq
  have e : ini? (({ cls := "OutwardDoors", name := "count", desc := "(I)I" } : Jvm.MethodName), prog_1_method_28_code, 2, (Option.some Jvm.ClassFile.FieldType.int)) = false := by decide
  rw [e]
  exact rows_of ck163 (by decide +kernel) rfl hf
set_option maxRecDepth 100000 in
theorem ra164 : RowsAt 164 := by
  intro q hq pc i lk hf
  cases (show gMt[164]? = some (({ cls := "OutwardDoors$World", name := "total", desc := "([I)I" } : Jvm.MethodName), prog_12_method_7_code, 4, (Option.some Jvm.ClassFile.FieldType.int)) from rfl).symm.trans hq
  have e : ini? (({ cls := "OutwardDoors$World", name := "total", desc := "([I)I" } : Jvm.MethodName), prog_12_method_7_code, 4, (Option.some Jvm.ClassFile.FieldType.int)) = false := by decide
  rw [e]
  exact rows_of ck164 (by decide +kernel) rfl hf
set_option maxRecDepth 100000 in
theorem ra165 : RowsAt 165 := by
  intro q hq pc i lk hf
  cases (show gMt[165]? = some (({ cls := "OutwardDoors", name := "image", desc := "(I)I" } : Jvm.MethodName), prog_1_method_29_code, 2, (Option.some Jvm.ClassFile.FieldType.int)) from rfl).symm.trans hq
  have e : ini? (({ cls := "OutwardDoors", name := "image", desc := "(I)I" } : Jvm.MethodName), prog_1_method_29_code, 2, (Option.some Jvm.ClassFile.FieldType.int)) = false := by decide
  rw [e]
  exact rows_of ck165 (by decide +kernel) rfl hf
set_option maxRecDepth 100000 in
theorem ra166 : RowsAt 166 := by
  intro q hq pc i lk hf
  cases (show gMt[166]? = some (({ cls := "OutwardDoors$Scene", name := "copyFrom", desc := "(LOutwardDoors$Scene;)V" } : Jvm.MethodName), prog_9_method_2_code, 2, (Option.none : Option Jvm.ClassFile.FieldType)) from rfl).symm.trans hq
  have e : ini? (({ cls := "OutwardDoors$Scene", name := "copyFrom", desc := "(LOutwardDoors$Scene;)V" } : Jvm.MethodName), prog_9_method_2_code, 2, (Option.none : Option Jvm.ClassFile.FieldType)) = false := by decide
  rw [e]
  exact rows_of ck166 (by decide +kernel) rfl hf
set_option maxRecDepth 100000 in
theorem ra167 : RowsAt 167 := by
  intro q hq pc i lk hf
  cases (show gMt[167]? = some (({ cls := "OutwardDoors", name := "back", desc := "(I)I" } : Jvm.MethodName), prog_1_method_30_code, 2, (Option.some Jvm.ClassFile.FieldType.int)) from rfl).symm.trans hq
  have e : ini? (({ cls := "OutwardDoors", name := "back", desc := "(I)I" } : Jvm.MethodName), prog_1_method_30_code, 2, (Option.some Jvm.ClassFile.FieldType.int)) = false := by decide
  rw [e]
  exact rows_of ck167 (by decide +kernel) rfl hf
set_option maxRecDepth 100000 in
theorem ra168 : RowsAt 168 := by
  intro q hq pc i lk hf
  cases (show gMt[168]? = some (({ cls := "OutwardDoorsModel", name := "<init>", desc := "()V" } : Jvm.MethodName), prog_14_method_1_code, 1, (Option.none : Option Jvm.ClassFile.FieldType)) from rfl).symm.trans hq
  have e : ini? (({ cls := "OutwardDoorsModel", name := "<init>", desc := "()V" } : Jvm.MethodName), prog_14_method_1_code, 1, (Option.none : Option Jvm.ClassFile.FieldType)) = true := by decide
  rw [e]
  exact rows_of ck168 (by decide +kernel) rfl hf
set_option maxRecDepth 100000 in
theorem ra169 : RowsAt 169 := by
  intro q hq pc i lk hf
  cases (show gMt[169]? = some (({ cls := "OutwardDoorsModel", name := "feed", desc := "(IIIII)I" } : Jvm.MethodName), prog_14_method_5_code, 6, (Option.some Jvm.ClassFile.FieldType.int)) from rfl).symm.trans hq
  have e : ini? (({ cls := "OutwardDoorsModel", name := "feed", desc := "(IIIII)I" } : Jvm.MethodName), prog_14_method_5_code, 6, (Option.some Jvm.ClassFile.FieldType.int)) = false := by decide
  rw [e]
  exact rows_of ck169 (by decide +kernel) rfl hf
set_option maxRecDepth 100000 in
theorem ra170 : RowsAt 170 := by
  intro q hq pc i lk hf
  cases (show gMt[170]? = some (({ cls := "OutwardDoorsModel", name := "four", desc := "(I)V" } : Jvm.MethodName), prog_14_method_4_code, 3, (Option.none : Option Jvm.ClassFile.FieldType)) from rfl).symm.trans hq
  have e : ini? (({ cls := "OutwardDoorsModel", name := "four", desc := "(I)V" } : Jvm.MethodName), prog_14_method_4_code, 3, (Option.none : Option Jvm.ClassFile.FieldType)) = false := by decide
  rw [e]
  exact rows_of ck170 (by decide +kernel) rfl hf
set_option maxRecDepth 100000 in
theorem ra171 : RowsAt 171 := by
  intro q hq pc i lk hf
  cases (show gMt[171]? = some (({ cls := "OutwardDoorsModel", name := "end", desc := "(I)I" } : Jvm.MethodName), prog_14_method_6_code, 2, (Option.some Jvm.ClassFile.FieldType.int)) from rfl).symm.trans hq
  have e : ini? (({ cls := "OutwardDoorsModel", name := "end", desc := "(I)I" } : Jvm.MethodName), prog_14_method_6_code, 2, (Option.some Jvm.ClassFile.FieldType.int)) = false := by decide
  rw [e]
  exact rows_of ck171 (by decide +kernel) rfl hf
set_option maxRecDepth 100000 in
theorem ra172 : RowsAt 172 := by
  intro q hq pc i lk hf
  cases (show gMt[172]? = some (({ cls := "OutwardDoorsModel", name := "rule", desc := "()I" } : Jvm.MethodName), prog_14_method_40_code, 1, (Option.some Jvm.ClassFile.FieldType.int)) from rfl).symm.trans hq
  have e : ini? (({ cls := "OutwardDoorsModel", name := "rule", desc := "()I" } : Jvm.MethodName), prog_14_method_40_code, 1, (Option.some Jvm.ClassFile.FieldType.int)) = false := by decide
  rw [e]
  exact rows_of ck172 (by decide +kernel) rfl hf
set_option maxRecDepth 100000 in
theorem ra173 : RowsAt 173 := by
  intro q hq pc i lk hf
  cases (show gMt[173]? = some (({ cls := "OutwardDoorsModel", name := "readsAll", desc := "()Z" } : Jvm.MethodName), prog_14_method_39_code, 2, (Option.some Jvm.ClassFile.FieldType.boolean)) from rfl).symm.trans hq
  have e : ini? (({ cls := "OutwardDoorsModel", name := "readsAll", desc := "()Z" } : Jvm.MethodName), prog_14_method_39_code, 2, (Option.some Jvm.ClassFile.FieldType.boolean)) = false := by decide
  rw [e]
  exact rows_of ck173 (by decide +kernel) rfl hf
set_option maxRecDepth 100000 in
theorem ra174 : RowsAt 174 := by
  intro q hq pc i lk hf
  cases (show gMt[174]? = some (({ cls := "OutwardDoorsModel", name := "clauseHere", desc := "()Z" } : Jvm.MethodName), prog_14_method_38_code, 3, (Option.some Jvm.ClassFile.FieldType.boolean)) from rfl).symm.trans hq
  have e : ini? (({ cls := "OutwardDoorsModel", name := "clauseHere", desc := "()Z" } : Jvm.MethodName), prog_14_method_38_code, 3, (Option.some Jvm.ClassFile.FieldType.boolean)) = false := by decide
  rw [e]
  exact rows_of ck174 (by decide +kernel) rfl hf
set_option maxRecDepth 100000 in
theorem ra175 : RowsAt 175 := by
  intro q hq pc i lk hf
  cases (show gMt[175]? = some (({ cls := "OutwardDoorsModel", name := "see", desc := "()I" } : Jvm.MethodName), prog_14_method_8_code, 1, (Option.some Jvm.ClassFile.FieldType.int)) from rfl).symm.trans hq
  have e : ini? (({ cls := "OutwardDoorsModel", name := "see", desc := "()I" } : Jvm.MethodName), prog_14_method_8_code, 1, (Option.some Jvm.ClassFile.FieldType.int)) = false := by decide
  rw [e]
  exact rows_of ck175 (by decide +kernel) rfl hf
set_option maxRecDepth 100000 in
theorem ra176 : RowsAt 176 := by
  intro q hq pc i lk hf
  cases (show gMt[176]? = some (({ cls := "OutwardDoorsModel", name := "isCastleWord", desc := "()Z" } : Jvm.MethodName), prog_14_method_37_code, 1, (Option.some Jvm.ClassFile.FieldType.boolean)) from rfl).symm.trans hq
  have e : ini? (({ cls := "OutwardDoorsModel", name := "isCastleWord", desc := "()Z" } : Jvm.MethodName), prog_14_method_37_code, 1, (Option.some Jvm.ClassFile.FieldType.boolean)) = false := by decide
  rw [e]
  exact rows_of ck176 (by decide +kernel) rfl hf
set_option maxRecDepth 100000 in
theorem ra177 : RowsAt 177 := by
  intro q hq pc i lk hf
  cases (show gMt[177]? = some (({ cls := "OutwardDoorsModel", name := "isWord", desc := "(J)Z" } : Jvm.MethodName), prog_14_method_11_code, 6, (Option.some Jvm.ClassFile.FieldType.boolean)) from rfl).symm.trans hq
  have e : ini? (({ cls := "OutwardDoorsModel", name := "isWord", desc := "(J)Z" } : Jvm.MethodName), prog_14_method_11_code, 6, (Option.some Jvm.ClassFile.FieldType.boolean)) = false := by decide
  rw [e]
  exact rows_of ck177 (by decide +kernel) rfl hf
set_option maxRecDepth 100000 in
theorem ra178 : RowsAt 178 := by
  intro q hq pc i lk hf
  cases (show gMt[178]? = some (({ cls := "OutwardDoorsModel", name := "isLetter", desc := "(I)Z" } : Jvm.MethodName), prog_14_method_10_code, 2, (Option.some Jvm.ClassFile.FieldType.boolean)) from rfl).symm.trans hq
  have e : ini? (({ cls := "OutwardDoorsModel", name := "isLetter", desc := "(I)Z" } : Jvm.MethodName), prog_14_method_10_code, 2, (Option.some Jvm.ClassFile.FieldType.boolean)) = false := by decide
  rw [e]
  exact rows_of ck178 (by decide +kernel) rfl hf
set_option maxRecDepth 100000 in
theorem ra179 : RowsAt 179 := by
  intro q hq pc i lk hf
  cases (show gMt[179]? = some (({ cls := "OutwardDoorsModel", name := "fails", desc := "(II)Z" } : Jvm.MethodName), prog_14_method_7_code, 3, (Option.some Jvm.ClassFile.FieldType.boolean)) from rfl).symm.trans hq
  have e : ini? (({ cls := "OutwardDoorsModel", name := "fails", desc := "(II)Z" } : Jvm.MethodName), prog_14_method_7_code, 3, (Option.some Jvm.ClassFile.FieldType.boolean)) = false := by decide
  rw [e]
  exact rows_of ck179 (by decide +kernel) rfl hf
set_option maxRecDepth 100000 in
theorem ra180 : RowsAt 180 := by
  intro q hq pc i lk hf
  cases (show gMt[180]? = some (({ cls := "OutwardDoorsModel", name := "castleLineHere", desc := "(I)Z" } : Jvm.MethodName), prog_14_method_36_code, 2, (Option.some Jvm.ClassFile.FieldType.boolean)) from rfl).symm.trans hq
  have e : ini? (({ cls := "OutwardDoorsModel", name := "castleLineHere", desc := "(I)Z" } : Jvm.MethodName), prog_14_method_36_code, 2, (Option.some Jvm.ClassFile.FieldType.boolean)) = false := by decide
  rw [e]
  exact rows_of ck180 (by decide +kernel) rfl hf
set_option maxRecDepth 100000 in
theorem ra181 : RowsAt 181 := by
  intro q hq pc i lk hf
  cases (show gMt[181]? = some (({ cls := "OutwardDoorsModel", name := "isCastleHere", desc := "(I)Z" } : Jvm.MethodName), prog_14_method_31_code, 2, (Option.some Jvm.ClassFile.FieldType.boolean)) from rfl).symm.trans hq
  have e : ini? (({ cls := "OutwardDoorsModel", name := "isCastleHere", desc := "(I)Z" } : Jvm.MethodName), prog_14_method_31_code, 2, (Option.some Jvm.ClassFile.FieldType.boolean)) = false := by decide
  rw [e]
  exact rows_of ck181 (by decide +kernel) rfl hf
set_option maxRecDepth 100000 in
theorem ra182 : RowsAt 182 := by
  intro q hq pc i lk hf
  cases (show gMt[182]? = some (({ cls := "OutwardDoorsModel", name := "passWord", desc := "()V" } : Jvm.MethodName), prog_14_method_12_code, 1, (Option.none : Option Jvm.ClassFile.FieldType)) from rfl).symm.trans hq
  have e : ini? (({ cls := "OutwardDoorsModel", name := "passWord", desc := "()V" } : Jvm.MethodName), prog_14_method_12_code, 1, (Option.none : Option Jvm.ClassFile.FieldType)) = false := by decide
  rw [e]
  exact rows_of ck182 (by decide +kernel) rfl hf
set_option maxRecDepth 100000 in
theorem ra183 : RowsAt 183 := by
  intro q hq pc i lk hf
  cases (show gMt[183]? = some (({ cls := "OutwardDoorsModel", name := "cellHere", desc := "(III)Z" } : Jvm.MethodName), prog_14_method_30_code, 4, (Option.some Jvm.ClassFile.FieldType.boolean)) from rfl).symm.trans hq
  have e : ini? (({ cls := "OutwardDoorsModel", name := "cellHere", desc := "(III)Z" } : Jvm.MethodName), prog_14_method_30_code, 4, (Option.some Jvm.ClassFile.FieldType.boolean)) = false := by decide
  rw [e]
  exact rows_of ck183 (by decide +kernel) rfl hf
set_option maxRecDepth 100000 in
theorem ra184 : RowsAt 184 := by
  intro q hq pc i lk hf
  cases (show gMt[184]? = some (({ cls := "OutwardDoorsModel", name := "numberHere", desc := "(II)Z" } : Jvm.MethodName), prog_14_method_14_code, 5, (Option.some Jvm.ClassFile.FieldType.boolean)) from rfl).symm.trans hq
  have e : ini? (({ cls := "OutwardDoorsModel", name := "numberHere", desc := "(II)Z" } : Jvm.MethodName), prog_14_method_14_code, 5, (Option.some Jvm.ClassFile.FieldType.boolean)) = false := by decide
  rw [e]
  exact rows_of ck184 (by decide +kernel) rfl hf
set_option maxRecDepth 100000 in
theorem ra185 : RowsAt 185 := by
  intro q hq pc i lk hf
  cases (show gMt[185]? = some (({ cls := "OutwardDoorsModel", name := "isDigit", desc := "(I)Z" } : Jvm.MethodName), prog_14_method_9_code, 2, (Option.some Jvm.ClassFile.FieldType.boolean)) from rfl).symm.trans hq
  have e : ini? (({ cls := "OutwardDoorsModel", name := "isDigit", desc := "(I)Z" } : Jvm.MethodName), prog_14_method_9_code, 2, (Option.some Jvm.ClassFile.FieldType.boolean)) = false := by decide
  rw [e]
  exact rows_of ck185 (by decide +kernel) rfl hf
set_option maxRecDepth 100000 in
theorem ra186 : RowsAt 186 := by
  intro q hq pc i lk hf
  cases (show gMt[186]? = some (({ cls := "OutwardDoorsModel", name := "in", desc := "(JJJ)Z" } : Jvm.MethodName), prog_14_method_2_code, 6, (Option.some Jvm.ClassFile.FieldType.boolean)) from rfl).symm.trans hq
  have e : ini? (({ cls := "OutwardDoorsModel", name := "in", desc := "(JJJ)Z" } : Jvm.MethodName), prog_14_method_2_code, 6, (Option.some Jvm.ClassFile.FieldType.boolean)) = false := by decide
  rw [e]
  exact rows_of ck186 (by decide +kernel) rfl hf
set_option maxRecDepth 100000 in
theorem ra187 : RowsAt 187 := by
  intro q hq pc i lk hf
  cases (show gMt[187]? = some (({ cls := "OutwardDoorsModel", name := "isFarHere", desc := "()Z" } : Jvm.MethodName), prog_14_method_32_code, 1, (Option.some Jvm.ClassFile.FieldType.boolean)) from rfl).symm.trans hq
  have e : ini? (({ cls := "OutwardDoorsModel", name := "isFarHere", desc := "()Z" } : Jvm.MethodName), prog_14_method_32_code, 1, (Option.some Jvm.ClassFile.FieldType.boolean)) = false := by decide
  rw [e]
  exact rows_of ck187 (by decide +kernel) rfl hf
set_option maxRecDepth 100000 in
theorem ra188 : RowsAt 188 := by
  intro q hq pc i lk hf
  cases (show gMt[188]? = some (({ cls := "OutwardDoorsModel", name := "isDoorHere", desc := "(II)Z" } : Jvm.MethodName), prog_14_method_33_code, 9, (Option.some Jvm.ClassFile.FieldType.boolean)) from rfl).symm.trans hq
  have e : ini? (({ cls := "OutwardDoorsModel", name := "isDoorHere", desc := "(II)Z" } : Jvm.MethodName), prog_14_method_33_code, 9, (Option.some Jvm.ClassFile.FieldType.boolean)) = false := by decide
  rw [e]
  exact rows_of ck188 (by decide +kernel) rfl hf
set_option maxRecDepth 100000 in
theorem ra189 : RowsAt 189 := by
  intro q hq pc i lk hf
  cases (show gMt[189]? = some (({ cls := "OutwardDoorsModel", name := "isNightHere", desc := "(I)Z" } : Jvm.MethodName), prog_14_method_34_code, 2, (Option.some Jvm.ClassFile.FieldType.boolean)) from rfl).symm.trans hq
  have e : ini? (({ cls := "OutwardDoorsModel", name := "isNightHere", desc := "(I)Z" } : Jvm.MethodName), prog_14_method_34_code, 2, (Option.some Jvm.ClassFile.FieldType.boolean)) = false := by decide
  rw [e]
  exact rows_of ck189 (by decide +kernel) rfl hf
set_option maxRecDepth 100000 in
theorem ra190 : RowsAt 190 := by
  intro q hq pc i lk hf
  cases (show gMt[190]? = some (({ cls := "OutwardDoorsModel", name := "isPersonHere", desc := "(I)Z" } : Jvm.MethodName), prog_14_method_35_code, 3, (Option.some Jvm.ClassFile.FieldType.boolean)) from rfl).symm.trans hq
  have e : ini? (({ cls := "OutwardDoorsModel", name := "isPersonHere", desc := "(I)Z" } : Jvm.MethodName), prog_14_method_35_code, 3, (Option.some Jvm.ClassFile.FieldType.boolean)) = false := by decide
  rw [e]
  exact rows_of ck190 (by decide +kernel) rfl hf
set_option maxRecDepth 100000 in
theorem ra191 : RowsAt 191 := by
  intro q hq pc i lk hf
  cases (show gMt[191]? = some (({ cls := "OutwardDoorsModel", name := "isGoHere", desc := "()Z" } : Jvm.MethodName), prog_14_method_29_code, 2, (Option.some Jvm.ClassFile.FieldType.boolean)) from rfl).symm.trans hq
  have e : ini? (({ cls := "OutwardDoorsModel", name := "isGoHere", desc := "()Z" } : Jvm.MethodName), prog_14_method_29_code, 2, (Option.some Jvm.ClassFile.FieldType.boolean)) = false := by decide
  rw [e]
  exact rows_of ck191 (by decide +kernel) rfl hf
set_option maxRecDepth 100000 in
theorem ra192 : RowsAt 192 := by
  intro q hq pc i lk hf
  cases (show gMt[192]? = some (({ cls := "OutwardDoorsModel", name := "sum", desc := "()Z" } : Jvm.MethodName), prog_14_method_23_code, 2, (Option.some Jvm.ClassFile.FieldType.boolean)) from rfl).symm.trans hq
  have e : ini? (({ cls := "OutwardDoorsModel", name := "sum", desc := "()Z" } : Jvm.MethodName), prog_14_method_23_code, 2, (Option.some Jvm.ClassFile.FieldType.boolean)) = false := by decide
  rw [e]
  exact rows_of ck192 (by decide +kernel) rfl hf
set_option maxRecDepth 100000 in
theorem ra193 : RowsAt 193 := by
  intro q hq pc i lk hf
  cases (show gMt[193]? = some (({ cls := "OutwardDoorsModel", name := "term", desc := "()Z" } : Jvm.MethodName), prog_14_method_22_code, 2, (Option.some Jvm.ClassFile.FieldType.boolean)) from rfl).symm.trans hq
  have e : ini? (({ cls := "OutwardDoorsModel", name := "term", desc := "()Z" } : Jvm.MethodName), prog_14_method_22_code, 2, (Option.some Jvm.ClassFile.FieldType.boolean)) = false := by decide
  rw [e]
  exact rows_of ck193 (by decide +kernel) rfl hf
set_option maxRecDepth 100000 in
theorem ra194 : RowsAt 194 := by
  intro q hq pc i lk hf
  cases (show gMt[194]? = some (({ cls := "OutwardDoorsModel", name := "value", desc := "()Z" } : Jvm.MethodName), prog_14_method_21_code, 3, (Option.some Jvm.ClassFile.FieldType.boolean)) from rfl).symm.trans hq
  have e : ini? (({ cls := "OutwardDoorsModel", name := "value", desc := "()Z" } : Jvm.MethodName), prog_14_method_21_code, 3, (Option.some Jvm.ClassFile.FieldType.boolean)) = false := by decide
  rw [e]
  exact rows_of ck194 (by decide +kernel) rfl hf
set_option maxRecDepth 100000 in
theorem ra195 : RowsAt 195 := by
  intro q hq pc i lk hf
  cases (show gMt[195]? = some (({ cls := "OutwardDoorsModel", name := "makes", desc := "(I)Z" } : Jvm.MethodName), prog_14_method_17_code, 2, (Option.some Jvm.ClassFile.FieldType.boolean)) from rfl).symm.trans hq
  have e : ini? (({ cls := "OutwardDoorsModel", name := "makes", desc := "(I)Z" } : Jvm.MethodName), prog_14_method_17_code, 2, (Option.some Jvm.ClassFile.FieldType.boolean)) = false := by decide
  rw [e]
  exact rows_of ck195 (by decide +kernel) rfl hf
set_option maxRecDepth 100000 in
theorem ra196 : RowsAt 196 := by
  intro q hq pc i lk hf
  cases (show gMt[196]? = some (({ cls := "OutwardDoorsModel", name := "puts", desc := "(II)V" } : Jvm.MethodName), prog_14_method_16_code, 3, (Option.none : Option Jvm.ClassFile.FieldType)) from rfl).symm.trans hq
  have e : ini? (({ cls := "OutwardDoorsModel", name := "puts", desc := "(II)V" } : Jvm.MethodName), prog_14_method_16_code, 3, (Option.none : Option Jvm.ClassFile.FieldType)) = false := by decide
  rw [e]
  exact rows_of ck196 (by decide +kernel) rfl hf
set_option maxRecDepth 100000 in
theorem ra197 : RowsAt 197 := by
  intro q hq pc i lk hf
  cases (show gMt[197]? = some (({ cls := "OutwardDoorsModel", name := "wordHere", desc := "()I" } : Jvm.MethodName), prog_14_method_15_code, 1, (Option.some Jvm.ClassFile.FieldType.int)) from rfl).symm.trans hq
  have e : ini? (({ cls := "OutwardDoorsModel", name := "wordHere", desc := "()I" } : Jvm.MethodName), prog_14_method_15_code, 1, (Option.some Jvm.ClassFile.FieldType.int)) = false := by decide
  rw [e]
  exact rows_of ck197 (by decide +kernel) rfl hf
set_option maxRecDepth 100000 in
theorem ra198 : RowsAt 198 := by
  intro q hq pc i lk hf
  cases (show gMt[198]? = some (({ cls := "OutwardDoorsModel", name := "takesWord", desc := "(J)Z" } : Jvm.MethodName), prog_14_method_13_code, 3, (Option.some Jvm.ClassFile.FieldType.boolean)) from rfl).symm.trans hq
  have e : ini? (({ cls := "OutwardDoorsModel", name := "takesWord", desc := "(J)Z" } : Jvm.MethodName), prog_14_method_13_code, 3, (Option.some Jvm.ClassFile.FieldType.boolean)) = false := by decide
  rw [e]
  exact rows_of ck198 (by decide +kernel) rfl hf
set_option maxRecDepth 100000 in
theorem ra199 : RowsAt 199 := by
  intro q hq pc i lk hf
  cases (show gMt[199]? = some (({ cls := "OutwardDoorsModel", name := "tested", desc := "()Z" } : Jvm.MethodName), prog_14_method_28_code, 3, (Option.some Jvm.ClassFile.FieldType.boolean)) from rfl).symm.trans hq
  have e : ini? (({ cls := "OutwardDoorsModel", name := "tested", desc := "()Z" } : Jvm.MethodName), prog_14_method_28_code, 3, (Option.some Jvm.ClassFile.FieldType.boolean)) = false := by decide
  rw [e]
  exact rows_of ck199 (by decide +kernel) rfl hf
set_option maxRecDepth 100000 in
theorem ra200 : RowsAt 200 := by
  intro q hq pc i lk hf
  cases (show gMt[200]? = some (({ cls := "OutwardDoorsModel", name := "fact", desc := "()Z" } : Jvm.MethodName), prog_14_method_25_code, 3, (Option.some Jvm.ClassFile.FieldType.boolean)) from rfl).symm.trans hq
  have e : ini? (({ cls := "OutwardDoorsModel", name := "fact", desc := "()Z" } : Jvm.MethodName), prog_14_method_25_code, 3, (Option.some Jvm.ClassFile.FieldType.boolean)) = false := by decide
  rw [e]
  exact rows_of ck200 (by decide +kernel) rfl hf
set_option maxRecDepth 100000 in
theorem ra201 : RowsAt 201 := by
  intro q hq pc i lk hf
  cases (show gMt[201]? = some (({ cls := "OutwardDoorsModel", name := "opens", desc := "(I)Z" } : Jvm.MethodName), prog_14_method_18_code, 2, (Option.some Jvm.ClassFile.FieldType.boolean)) from rfl).symm.trans hq
  have e : ini? (({ cls := "OutwardDoorsModel", name := "opens", desc := "(I)Z" } : Jvm.MethodName), prog_14_method_18_code, 2, (Option.some Jvm.ClassFile.FieldType.boolean)) = false := by decide
  rw [e]
  exact rows_of ck201 (by decide +kernel) rfl hf
set_option maxRecDepth 100000 in
theorem ra202 : RowsAt 202 := by
  intro q hq pc i lk hf
  cases (show gMt[202]? = some (({ cls := "OutwardDoorsModel", name := "compare", desc := "()Z" } : Jvm.MethodName), prog_14_method_24_code, 5, (Option.some Jvm.ClassFile.FieldType.boolean)) from rfl).symm.trans hq
  have e : ini? (({ cls := "OutwardDoorsModel", name := "compare", desc := "()Z" } : Jvm.MethodName), prog_14_method_24_code, 5, (Option.some Jvm.ClassFile.FieldType.boolean)) = false := by decide
  rw [e]
  exact rows_of ck202 (by decide +kernel) rfl hf
set_option maxRecDepth 100000 in
theorem ra203 : RowsAt 203 := by
  intro q hq pc i lk hf
  cases (show gMt[203]? = some (({ cls := "OutwardDoorsModel", name := "closes", desc := "()V" } : Jvm.MethodName), prog_14_method_27_code, 1, (Option.none : Option Jvm.ClassFile.FieldType)) from rfl).symm.trans hq
  have e : ini? (({ cls := "OutwardDoorsModel", name := "closes", desc := "()V" } : Jvm.MethodName), prog_14_method_27_code, 1, (Option.none : Option Jvm.ClassFile.FieldType)) = false := by decide
  rw [e]
  exact rows_of ck203 (by decide +kernel) rfl hf
set_option maxRecDepth 100000 in
theorem ra204 : RowsAt 204 := by
  intro q hq pc i lk hf
  cases (show gMt[204]? = some (({ cls := "OutwardDoorsModel", name := "settles", desc := "(I)V" } : Jvm.MethodName), prog_14_method_20_code, 2, (Option.none : Option Jvm.ClassFile.FieldType)) from rfl).symm.trans hq
  have e : ini? (({ cls := "OutwardDoorsModel", name := "settles", desc := "(I)V" } : Jvm.MethodName), prog_14_method_20_code, 2, (Option.none : Option Jvm.ClassFile.FieldType)) = false := by decide
  rw [e]
  exact rows_of ck204 (by decide +kernel) rfl hf
set_option maxRecDepth 100000 in
theorem ra205 : RowsAt 205 := by
  intro q hq pc i lk hf
  cases (show gMt[205]? = some (({ cls := "OutwardDoorsModel", name := "strength", desc := "(I)I" } : Jvm.MethodName), prog_14_method_19_code, 1, (Option.some Jvm.ClassFile.FieldType.int)) from rfl).symm.trans hq
  have e : ini? (({ cls := "OutwardDoorsModel", name := "strength", desc := "(I)I" } : Jvm.MethodName), prog_14_method_19_code, 1, (Option.some Jvm.ClassFile.FieldType.int)) = false := by decide
  rw [e]
  exact rows_of ck205 (by decide +kernel) rfl hf
set_option maxRecDepth 100000 in
theorem ra206 : RowsAt 206 := by
  intro q hq pc i lk hf
  cases (show gMt[206]? = some (({ cls := "OutwardDoorsModel", name := "isInside", desc := "()Z" } : Jvm.MethodName), prog_14_method_26_code, 2, (Option.some Jvm.ClassFile.FieldType.boolean)) from rfl).symm.trans hq
  have e : ini? (({ cls := "OutwardDoorsModel", name := "isInside", desc := "()Z" } : Jvm.MethodName), prog_14_method_26_code, 2, (Option.some Jvm.ClassFile.FieldType.boolean)) = false := by decide
  rw [e]
  exact rows_of ck206 (by decide +kernel) rfl hf
set_option maxRecDepth 100000 in
theorem ra207 : RowsAt 207 := by
  intro q hq pc i lk hf
  cases (show gMt[207]? = some (({ cls := "OutwardDoorsModel", name := "castle", desc := "()I" } : Jvm.MethodName), prog_14_method_42_code, 2, (Option.some Jvm.ClassFile.FieldType.int)) from rfl).symm.trans hq
  have e : ini? (({ cls := "OutwardDoorsModel", name := "castle", desc := "()I" } : Jvm.MethodName), prog_14_method_42_code, 2, (Option.some Jvm.ClassFile.FieldType.int)) = false := by decide
  rw [e]
  exact rows_of ck207 (by decide +kernel) rfl hf
set_option maxRecDepth 100000 in
theorem ra208 : RowsAt 208 := by
  intro q hq pc i lk hf
  cases (show gMt[208]? = some (({ cls := "OutwardDoorsModel", name := "turnsDoors", desc := "()V" } : Jvm.MethodName), prog_14_method_41_code, 5, (Option.none : Option Jvm.ClassFile.FieldType)) from rfl).symm.trans hq
  have e : ini? (({ cls := "OutwardDoorsModel", name := "turnsDoors", desc := "()V" } : Jvm.MethodName), prog_14_method_41_code, 5, (Option.none : Option Jvm.ClassFile.FieldType)) = false := by decide
  rw [e]
  exact rows_of ck208 (by decide +kernel) rfl hf
set_option maxRecDepth 100000 in
theorem ra209 : RowsAt 209 := by
  intro q hq pc i lk hf
  cases (show gMt[209]? = some (({ cls := "OutwardDoorsModel", name := "personOf", desc := "(II)I" } : Jvm.MethodName), prog_14_method_52_code, 3, (Option.some Jvm.ClassFile.FieldType.int)) from rfl).symm.trans hq
  have e : ini? (({ cls := "OutwardDoorsModel", name := "personOf", desc := "(II)I" } : Jvm.MethodName), prog_14_method_52_code, 3, (Option.some Jvm.ClassFile.FieldType.int)) = false := by decide
  rw [e]
  exact rows_of ck209 (by decide +kernel) rfl hf
set_option maxRecDepth 100000 in
theorem ra210 : RowsAt 210 := by
  intro q hq pc i lk hf
  cases (show gMt[210]? = some (({ cls := "OutwardDoorsModel", name := "force", desc := "(I)I" } : Jvm.MethodName), prog_14_method_64_code, 3, (Option.some Jvm.ClassFile.FieldType.int)) from rfl).symm.trans hq
  have e : ini? (({ cls := "OutwardDoorsModel", name := "force", desc := "(I)I" } : Jvm.MethodName), prog_14_method_64_code, 3, (Option.some Jvm.ClassFile.FieldType.int)) = false := by decide
  rw [e]
  exact rows_of ck210 (by decide +kernel) rfl hf
set_option maxRecDepth 100000 in
theorem ra211 : RowsAt 211 := by
  intro q hq pc i lk hf
  cases (show gMt[211]? = some (({ cls := "OutwardDoorsModel", name := "isRule", desc := "(I)Z" } : Jvm.MethodName), prog_14_method_43_code, 2, (Option.some Jvm.ClassFile.FieldType.boolean)) from rfl).symm.trans hq
  have e : ini? (({ cls := "OutwardDoorsModel", name := "isRule", desc := "(I)Z" } : Jvm.MethodName), prog_14_method_43_code, 2, (Option.some Jvm.ClassFile.FieldType.boolean)) = false := by decide
  rw [e]
  exact rows_of ck211 (by decide +kernel) rfl hf
set_option maxRecDepth 100000 in
theorem ra212 : RowsAt 212 := by
  intro q hq pc i lk hf
  cases (show gMt[212]? = some (({ cls := "OutwardDoorsModel", name := "person", desc := "(II)I" } : Jvm.MethodName), prog_14_method_65_code, 3, (Option.some Jvm.ClassFile.FieldType.int)) from rfl).symm.trans hq
  have e : ini? (({ cls := "OutwardDoorsModel", name := "person", desc := "(II)I" } : Jvm.MethodName), prog_14_method_65_code, 3, (Option.some Jvm.ClassFile.FieldType.int)) = false := by decide
  rw [e]
  exact rows_of ck212 (by decide +kernel) rfl hf
set_option maxRecDepth 100000 in
theorem ra213 : RowsAt 213 := by
  intro q hq pc i lk hf
  cases (show gMt[213]? = some (({ cls := "OutwardDoorsModel", name := "isPerson", desc := "(I)Z" } : Jvm.MethodName), prog_14_method_49_code, 2, (Option.some Jvm.ClassFile.FieldType.boolean)) from rfl).symm.trans hq
  have e : ini? (({ cls := "OutwardDoorsModel", name := "isPerson", desc := "(I)Z" } : Jvm.MethodName), prog_14_method_49_code, 2, (Option.some Jvm.ClassFile.FieldType.boolean)) = false := by decide
  rw [e]
  exact rows_of ck213 (by decide +kernel) rfl hf
set_option maxRecDepth 100000 in
theorem ra214 : RowsAt 214 := by
  intro q hq pc i lk hf
  cases (show gMt[214]? = some (({ cls := "OutwardDoorsModel", name := "leftOf", desc := "(I)I" } : Jvm.MethodName), prog_14_method_59_code, 2, (Option.some Jvm.ClassFile.FieldType.int)) from rfl).symm.trans hq
  have e : ini? (({ cls := "OutwardDoorsModel", name := "leftOf", desc := "(I)I" } : Jvm.MethodName), prog_14_method_59_code, 2, (Option.some Jvm.ClassFile.FieldType.int)) = false := by decide
  rw [e]
  exact rows_of ck214 (by decide +kernel) rfl hf
set_option maxRecDepth 100000 in
theorem ra215 : RowsAt 215 := by
  intro q hq pc i lk hf
  cases (show gMt[215]? = some (({ cls := "OutwardDoorsModel", name := "leftFrom", desc := "(II)I" } : Jvm.MethodName), prog_14_method_58_code, 3, (Option.some Jvm.ClassFile.FieldType.int)) from rfl).symm.trans hq
  have e : ini? (({ cls := "OutwardDoorsModel", name := "leftFrom", desc := "(II)I" } : Jvm.MethodName), prog_14_method_58_code, 3, (Option.some Jvm.ClassFile.FieldType.int)) = false := by decide
  rw [e]
  exact rows_of ck215 (by decide +kernel) rfl hf
set_option maxRecDepth 100000 in
theorem ra216 : RowsAt 216 := by
  intro q hq pc i lk hf
  cases (show gMt[216]? = some (({ cls := "OutwardDoorsModel", name := "fillsDoors", desc := "(I)V" } : Jvm.MethodName), prog_14_method_57_code, 6, (Option.none : Option Jvm.ClassFile.FieldType)) from rfl).symm.trans hq
  have e : ini? (({ cls := "OutwardDoorsModel", name := "fillsDoors", desc := "(I)V" } : Jvm.MethodName), prog_14_method_57_code, 6, (Option.none : Option Jvm.ClassFile.FieldType)) = false := by decide
  rw [e]
  exact rows_of ck216 (by decide +kernel) rfl hf
set_option maxRecDepth 100000 in
theorem ra217 : RowsAt 217 := by
  intro q hq pc i lk hf
  cases (show gMt[217]? = some (({ cls := "OutwardDoorsModel", name := "isOpen", desc := "(I)Z" } : Jvm.MethodName), prog_14_method_56_code, 2, (Option.some Jvm.ClassFile.FieldType.boolean)) from rfl).symm.trans hq
  have e : ini? (({ cls := "OutwardDoorsModel", name := "isOpen", desc := "(I)Z" } : Jvm.MethodName), prog_14_method_56_code, 2, (Option.some Jvm.ClassFile.FieldType.boolean)) = false := by decide
  rw [e]
  exact rows_of ck217 (by decide +kernel) rfl hf
set_option maxRecDepth 100000 in
theorem ra218 : RowsAt 218 := by
  intro q hq pc i lk hf
  cases (show gMt[218]? = some (({ cls := "OutwardDoorsModel", name := "nearOf", desc := "(I)I" } : Jvm.MethodName), prog_14_method_53_code, 2, (Option.some Jvm.ClassFile.FieldType.int)) from rfl).symm.trans hq
  have e : ini? (({ cls := "OutwardDoorsModel", name := "nearOf", desc := "(I)I" } : Jvm.MethodName), prog_14_method_53_code, 2, (Option.some Jvm.ClassFile.FieldType.int)) = false := by decide
  rw [e]
  exact rows_of ck218 (by decide +kernel) rfl hf
set_option maxRecDepth 100000 in
theorem ra219 : RowsAt 219 := by
  intro q hq pc i lk hf
  cases (show gMt[219]? = some (({ cls := "OutwardDoorsModel", name := "farOf", desc := "(I)I" } : Jvm.MethodName), prog_14_method_54_code, 2, (Option.some Jvm.ClassFile.FieldType.int)) from rfl).symm.trans hq
  have e : ini? (({ cls := "OutwardDoorsModel", name := "farOf", desc := "(I)I" } : Jvm.MethodName), prog_14_method_54_code, 2, (Option.some Jvm.ClassFile.FieldType.int)) = false := by decide
  rw [e]
  exact rows_of ck219 (by decide +kernel) rfl hf
set_option maxRecDepth 100000 in
theorem ra220 : RowsAt 220 := by
  intro q hq pc i lk hf
  cases (show gMt[220]? = some (({ cls := "OutwardDoorsModel", name := "isNight", desc := "()Z" } : Jvm.MethodName), prog_14_method_55_code, 2, (Option.some Jvm.ClassFile.FieldType.boolean)) from rfl).symm.trans hq
  have e : ini? (({ cls := "OutwardDoorsModel", name := "isNight", desc := "()Z" } : Jvm.MethodName), prog_14_method_55_code, 2, (Option.some Jvm.ClassFile.FieldType.boolean)) = false := by decide
  rw [e]
  exact rows_of ck220 (by decide +kernel) rfl hf
set_option maxRecDepth 100000 in
theorem ra221 : RowsAt 221 := by
  intro q hq pc i lk hf
  cases (show gMt[221]? = some (({ cls := "OutwardDoorsModel", name := "stepOf", desc := "(I)I" } : Jvm.MethodName), prog_14_method_60_code, 7, (Option.some Jvm.ClassFile.FieldType.int)) from rfl).symm.trans hq
  have e : ini? (({ cls := "OutwardDoorsModel", name := "stepOf", desc := "(I)I" } : Jvm.MethodName), prog_14_method_60_code, 7, (Option.some Jvm.ClassFile.FieldType.int)) = false := by decide
  rw [e]
  exact rows_of ck221 (by decide +kernel) rfl hf
set_option maxRecDepth 100000 in
theorem ra222 : RowsAt 222 := by
  intro q hq pc i lk hf
  cases (show gMt[222]? = some (({ cls := "OutwardDoorsModel", name := "room", desc := "(II)I" } : Jvm.MethodName), prog_14_method_66_code, 3, (Option.some Jvm.ClassFile.FieldType.int)) from rfl).symm.trans hq
  have e : ini? (({ cls := "OutwardDoorsModel", name := "room", desc := "(II)I" } : Jvm.MethodName), prog_14_method_66_code, 3, (Option.some Jvm.ClassFile.FieldType.int)) = false := by decide
  rw [e]
  exact rows_of ck222 (by decide +kernel) rfl hf
set_option maxRecDepth 100000 in
theorem ra223 : RowsAt 223 := by
  intro q hq pc i lk hf
  cases (show gMt[223]? = some (({ cls := "OutwardDoorsModel", name := "isRoom", desc := "(I)Z" } : Jvm.MethodName), prog_14_method_50_code, 2, (Option.some Jvm.ClassFile.FieldType.boolean)) from rfl).symm.trans hq
  have e : ini? (({ cls := "OutwardDoorsModel", name := "isRoom", desc := "(I)Z" } : Jvm.MethodName), prog_14_method_50_code, 2, (Option.some Jvm.ClassFile.FieldType.boolean)) = false := by decide
  rw [e]
  exact rows_of ck223 (by decide +kernel) rfl hf
set_option maxRecDepth 100000 in
theorem ra224 : RowsAt 224 := by
  intro q hq pc i lk hf
  cases (show gMt[224]? = some (({ cls := "OutwardDoorsModel", name := "peopleIn", desc := "(I)I" } : Jvm.MethodName), prog_14_method_62_code, 4, (Option.some Jvm.ClassFile.FieldType.int)) from rfl).symm.trans hq
  have e : ini? (({ cls := "OutwardDoorsModel", name := "peopleIn", desc := "(I)I" } : Jvm.MethodName), prog_14_method_62_code, 4, (Option.some Jvm.ClassFile.FieldType.int)) = false := by decide
  rw [e]
  exact rows_of ck224 (by decide +kernel) rfl hf
set_option maxRecDepth 100000 in
theorem ra225 : RowsAt 225 := by
  intro q hq pc i lk hf
  cases (show gMt[225]? = some (({ cls := "OutwardDoorsModel", name := "outsideOf", desc := "(I)I" } : Jvm.MethodName), prog_14_method_63_code, 5, (Option.some Jvm.ClassFile.FieldType.int)) from rfl).symm.trans hq
  have e : ini? (({ cls := "OutwardDoorsModel", name := "outsideOf", desc := "(I)I" } : Jvm.MethodName), prog_14_method_63_code, 5, (Option.some Jvm.ClassFile.FieldType.int)) = false := by decide
  rw [e]
  exact rows_of ck225 (by decide +kernel) rfl hf
set_option maxRecDepth 100000 in
theorem ra226 : RowsAt 226 := by
  intro q hq pc i lk hf
  cases (show gMt[226]? = some (({ cls := "OutwardDoorsModel", name := "isOf", desc := "(II)Z" } : Jvm.MethodName), prog_14_method_3_code, 2, (Option.some Jvm.ClassFile.FieldType.boolean)) from rfl).symm.trans hq
  have e : ini? (({ cls := "OutwardDoorsModel", name := "isOf", desc := "(II)Z" } : Jvm.MethodName), prog_14_method_3_code, 2, (Option.some Jvm.ClassFile.FieldType.boolean)) = false := by decide
  rw [e]
  exact rows_of ck226 (by decide +kernel) rfl hf
set_option maxRecDepth 100000 in
theorem ra227 : RowsAt 227 := by
  intro q hq pc i lk hf
  cases (show gMt[227]? = some (({ cls := "OutwardDoorsModel", name := "door", desc := "(II)I" } : Jvm.MethodName), prog_14_method_67_code, 3, (Option.some Jvm.ClassFile.FieldType.int)) from rfl).symm.trans hq
  have e : ini? (({ cls := "OutwardDoorsModel", name := "door", desc := "(II)I" } : Jvm.MethodName), prog_14_method_67_code, 3, (Option.some Jvm.ClassFile.FieldType.int)) = false := by decide
  rw [e]
  exact rows_of ck227 (by decide +kernel) rfl hf
set_option maxRecDepth 100000 in
theorem ra228 : RowsAt 228 := by
  intro q hq pc i lk hf
  cases (show gMt[228]? = some (({ cls := "OutwardDoorsModel", name := "isDoor", desc := "(I)Z" } : Jvm.MethodName), prog_14_method_51_code, 2, (Option.some Jvm.ClassFile.FieldType.boolean)) from rfl).symm.trans hq
  have e : ini? (({ cls := "OutwardDoorsModel", name := "isDoor", desc := "(I)Z" } : Jvm.MethodName), prog_14_method_51_code, 2, (Option.some Jvm.ClassFile.FieldType.boolean)) = false := by decide
  rw [e]
  exact rows_of ck228 (by decide +kernel) rfl hf
set_option maxRecDepth 100000 in
theorem ra229 : RowsAt 229 := by
  intro q hq pc i lk hf
  cases (show gMt[229]? = some (({ cls := "OutwardDoorsModel", name := "undo", desc := "()I" } : Jvm.MethodName), prog_14_method_79_code, 2, (Option.some Jvm.ClassFile.FieldType.int)) from rfl).symm.trans hq
  have e : ini? (({ cls := "OutwardDoorsModel", name := "undo", desc := "()I" } : Jvm.MethodName), prog_14_method_79_code, 2, (Option.some Jvm.ClassFile.FieldType.int)) = false := by decide
  rw [e]
  exact rows_of ck229 (by decide +kernel) rfl hf
set_option maxRecDepth 100000 in
theorem ra230 : RowsAt 230 := by
  intro q hq pc i lk hf
  cases (show gMt[230]? = some (({ cls := "OutwardDoorsModel", name := "moment", desc := "()I" } : Jvm.MethodName), prog_14_method_80_code, 1, (Option.some Jvm.ClassFile.FieldType.int)) from rfl).symm.trans hq
  have e : ini? (({ cls := "OutwardDoorsModel", name := "moment", desc := "()I" } : Jvm.MethodName), prog_14_method_80_code, 1, (Option.some Jvm.ClassFile.FieldType.int)) = false := by decide
  rw [e]
  exact rows_of ck230 (by decide +kernel) rfl hf
set_option maxRecDepth 100000 in
theorem ra231 : RowsAt 231 := by
  intro q hq pc i lk hf
  cases (show gMt[231]? = some (({ cls := "OutwardDoorsModel", name := "isCastle", desc := "()Z" } : Jvm.MethodName), prog_14_method_48_code, 1, (Option.some Jvm.ClassFile.FieldType.boolean)) from rfl).symm.trans hq
  have e : ini? (({ cls := "OutwardDoorsModel", name := "isCastle", desc := "()Z" } : Jvm.MethodName), prog_14_method_48_code, 1, (Option.some Jvm.ClassFile.FieldType.boolean)) = false := by decide
  rw [e]
  exact rows_of ck231 (by decide +kernel) rfl hf
set_option maxRecDepth 100000 in
theorem ra232 : RowsAt 232 := by
  intro q hq pc i lk hf
  cases (show gMt[232]? = some (({ cls := "OutwardDoorsModel", name := "keepsAct", desc := "()V" } : Jvm.MethodName), prog_14_method_78_code, 2, (Option.none : Option Jvm.ClassFile.FieldType)) from rfl).symm.trans hq
  have e : ini? (({ cls := "OutwardDoorsModel", name := "keepsAct", desc := "()V" } : Jvm.MethodName), prog_14_method_78_code, 2, (Option.none : Option Jvm.ClassFile.FieldType)) = false := by decide
  rw [e]
  exact rows_of ck232 (by decide +kernel) rfl hf
set_option maxRecDepth 100000 in
theorem ra233 : RowsAt 233 := by
  intro q hq pc i lk hf
  cases (show gMt[233]? = some (({ cls := "OutwardDoorsModel", name := "passes", desc := "()I" } : Jvm.MethodName), prog_14_method_77_code, 4, (Option.some Jvm.ClassFile.FieldType.int)) from rfl).symm.trans hq
  have e : ini? (({ cls := "OutwardDoorsModel", name := "passes", desc := "()I" } : Jvm.MethodName), prog_14_method_77_code, 4, (Option.some Jvm.ClassFile.FieldType.int)) = false := by decide
  rw [e]
  exact rows_of ck233 (by decide +kernel) rfl hf
set_option maxRecDepth 100000 in
theorem ra234 : RowsAt 234 := by
  intro q hq pc i lk hf
  cases (show gMt[234]? = some (({ cls := "OutwardDoorsModel", name := "wills", desc := "(I)V" } : Jvm.MethodName), prog_14_method_73_code, 6, (Option.none : Option Jvm.ClassFile.FieldType)) from rfl).symm.trans hq
  have e : ini? (({ cls := "OutwardDoorsModel", name := "wills", desc := "(I)V" } : Jvm.MethodName), prog_14_method_73_code, 6, (Option.none : Option Jvm.ClassFile.FieldType)) = false := by decide
  rw [e]
  exact rows_of ck234 (by decide +kernel) rfl hf
set_option maxRecDepth 100000 in
theorem ra235 : RowsAt 235 := by
  intro q hq pc i lk hf
  cases (show gMt[235]? = some (({ cls := "OutwardDoorsModel", name := "words", desc := "(I)V" } : Jvm.MethodName), prog_14_method_70_code, 3, (Option.none : Option Jvm.ClassFile.FieldType)) from rfl).symm.trans hq
  have e : ini? (({ cls := "OutwardDoorsModel", name := "words", desc := "(I)V" } : Jvm.MethodName), prog_14_method_70_code, 3, (Option.none : Option Jvm.ClassFile.FieldType)) = false := by decide
  rw [e]
  exact rows_of ck235 (by decide +kernel) rfl hf
set_option maxRecDepth 100000 in
theorem ra236 : RowsAt 236 := by
  intro q hq pc i lk hf
  cases (show gMt[236]? = some (({ cls := "OutwardDoorsModel", name := "bits", desc := "(I)I" } : Jvm.MethodName), prog_14_method_69_code, 3, (Option.some Jvm.ClassFile.FieldType.int)) from rfl).symm.trans hq
  have e : ini? (({ cls := "OutwardDoorsModel", name := "bits", desc := "(I)I" } : Jvm.MethodName), prog_14_method_69_code, 3, (Option.some Jvm.ClassFile.FieldType.int)) = false := by decide
  rw [e]
  exact rows_of ck236 (by decide +kernel) rfl hf
set_option maxRecDepth 100000 in
theorem ra237 : RowsAt 237 := by
  intro q hq pc i lk hf
  cases (show gMt[237]? = some (({ cls := "OutwardDoorsModel", name := "askersOf", desc := "(I)I" } : Jvm.MethodName), prog_14_method_68_code, 5, (Option.some Jvm.ClassFile.FieldType.int)) from rfl).symm.trans hq
  have e : ini? (({ cls := "OutwardDoorsModel", name := "askersOf", desc := "(I)I" } : Jvm.MethodName), prog_14_method_68_code, 5, (Option.some Jvm.ClassFile.FieldType.int)) = false := by decide
  rw [e]
  exact rows_of ck237 (by decide +kernel) rfl hf
set_option maxRecDepth 100000 in
theorem ra238 : RowsAt 238 := by
  intro q hq pc i lk hf
  cases (show gMt[238]? = some (({ cls := "OutwardDoorsModel", name := "summedBy", desc := "(I)J" } : Jvm.MethodName), prog_14_method_71_code, 4, (Option.some Jvm.ClassFile.FieldType.long)) from rfl).symm.trans hq
  have e : ini? (({ cls := "OutwardDoorsModel", name := "summedBy", desc := "(I)J" } : Jvm.MethodName), prog_14_method_71_code, 4, (Option.some Jvm.ClassFile.FieldType.long)) = false := by decide
  rw [e]
  exact rows_of ck238 (by decide +kernel) rfl hf
set_option maxRecDepth 100000 in
theorem ra239 : RowsAt 239 := by
  intro q hq pc i lk hf
  cases (show gMt[239]? = some (({ cls := "OutwardDoorsModel", name := "reckons", desc := "(III)J" } : Jvm.MethodName), prog_14_method_47_code, 11, (Option.some Jvm.ClassFile.FieldType.long)) from rfl).symm.trans hq
  have e : ini? (({ cls := "OutwardDoorsModel", name := "reckons", desc := "(III)J" } : Jvm.MethodName), prog_14_method_47_code, 11, (Option.some Jvm.ClassFile.FieldType.long)) = false := by decide
  rw [e]
  exact rows_of ck239 (by decide +kernel) rfl hf
set_option maxRecDepth 100000 in
theorem ra240 : RowsAt 240 := by
  intro q hq pc i lk hf
  cases (show gMt[240]? = some (({ cls := "OutwardDoorsModel", name := "push", desc := "(J)V" } : Jvm.MethodName), prog_14_method_44_code, 3, (Option.none : Option Jvm.ClassFile.FieldType)) from rfl).symm.trans hq
  have e : ini? (({ cls := "OutwardDoorsModel", name := "push", desc := "(J)V" } : Jvm.MethodName), prog_14_method_44_code, 3, (Option.none : Option Jvm.ClassFile.FieldType)) = false := by decide
  rw [e]
  exact rows_of ck240 (by decide +kernel) rfl hf
set_option maxRecDepth 100000 in
theorem ra241 : RowsAt 241 := by
  intro q hq pc i lk hf
  cases (show gMt[241]? = some (({ cls := "OutwardDoorsModel", name := "pop", desc := "()J" } : Jvm.MethodName), prog_14_method_45_code, 1, (Option.some Jvm.ClassFile.FieldType.long)) from rfl).symm.trans hq
  have e : ini? (({ cls := "OutwardDoorsModel", name := "pop", desc := "()J" } : Jvm.MethodName), prog_14_method_45_code, 1, (Option.some Jvm.ClassFile.FieldType.long)) = false := by decide
  rw [e]
  exact rows_of ck241 (by decide +kernel) rfl hf
set_option maxRecDepth 100000 in
theorem ra242 : RowsAt 242 := by
  intro q hq pc i lk hf
  cases (show gMt[242]? = some (({ cls := "OutwardDoorsModel", name := "one", desc := "(IJJ)J" } : Jvm.MethodName), prog_14_method_46_code, 5, (Option.some Jvm.ClassFile.FieldType.long)) from rfl).symm.trans hq
  have e : ini? (({ cls := "OutwardDoorsModel", name := "one", desc := "(IJJ)J" } : Jvm.MethodName), prog_14_method_46_code, 5, (Option.some Jvm.ClassFile.FieldType.long)) = false := by decide
  rw [e]
  exact rows_of ck242 (by decide +kernel) rfl hf
set_option maxRecDepth 100000 in
theorem ra243 : RowsAt 243 := by
  intro q hq pc i lk hf
  cases (show gMt[243]? = some (({ cls := "OutwardDoorsModel", name := "firstOut", desc := "(I)I" } : Jvm.MethodName), prog_14_method_72_code, 3, (Option.some Jvm.ClassFile.FieldType.int)) from rfl).symm.trans hq
  have e : ini? (({ cls := "OutwardDoorsModel", name := "firstOut", desc := "(I)I" } : Jvm.MethodName), prog_14_method_72_code, 3, (Option.some Jvm.ClassFile.FieldType.int)) = false := by decide
  rw [e]
  exact rows_of ck243 (by decide +kernel) rfl hf
set_option maxRecDepth 100000 in
theorem ra244 : RowsAt 244 := by
  intro q hq pc i lk hf
  cases (show gMt[244]? = some (({ cls := "OutwardDoorsModel", name := "doorBetween", desc := "(II)I" } : Jvm.MethodName), prog_14_method_61_code, 4, (Option.some Jvm.ClassFile.FieldType.int)) from rfl).symm.trans hq
  have e : ini? (({ cls := "OutwardDoorsModel", name := "doorBetween", desc := "(II)I" } : Jvm.MethodName), prog_14_method_61_code, 4, (Option.some Jvm.ClassFile.FieldType.int)) = false := by decide
  rw [e]
  exact rows_of ck244 (by decide +kernel) rfl hf
set_option maxRecDepth 100000 in
theorem ra245 : RowsAt 245 := by
  intro q hq pc i lk hf
  cases (show gMt[245]? = some (({ cls := "OutwardDoorsModel", name := "goesOut", desc := "(II)V" } : Jvm.MethodName), prog_14_method_74_code, 4, (Option.none : Option Jvm.ClassFile.FieldType)) from rfl).symm.trans hq
  have e : ini? (({ cls := "OutwardDoorsModel", name := "goesOut", desc := "(II)V" } : Jvm.MethodName), prog_14_method_74_code, 4, (Option.none : Option Jvm.ClassFile.FieldType)) = false := by decide
  rw [e]
  exact rows_of ck245 (by decide +kernel) rfl hf
set_option maxRecDepth 100000 in
theorem ra246 : RowsAt 246 := by
  intro q hq pc i lk hf
  cases (show gMt[246]? = some (({ cls := "OutwardDoorsModel", name := "willer", desc := "(IZI)I" } : Jvm.MethodName), prog_14_method_76_code, 6, (Option.some Jvm.ClassFile.FieldType.int)) from rfl).symm.trans hq
  have e : ini? (({ cls := "OutwardDoorsModel", name := "willer", desc := "(IZI)I" } : Jvm.MethodName), prog_14_method_76_code, 6, (Option.some Jvm.ClassFile.FieldType.int)) = false := by decide
  rw [e]
  exact rows_of ck246 (by decide +kernel) rfl hf
set_option maxRecDepth 100000 in
theorem ra247 : RowsAt 247 := by
  intro q hq pc i lk hf
  cases (show gMt[247]? = some (({ cls := "OutwardDoorsModel", name := "comesIn", desc := "(III)V" } : Jvm.MethodName), prog_14_method_75_code, 5, (Option.none : Option Jvm.ClassFile.FieldType)) from rfl).symm.trans hq
  have e : ini? (({ cls := "OutwardDoorsModel", name := "comesIn", desc := "(III)V" } : Jvm.MethodName), prog_14_method_75_code, 5, (Option.none : Option Jvm.ClassFile.FieldType)) = false := by decide
  rw [e]
  exact rows_of ck247 (by decide +kernel) rfl hf
set_option maxRecDepth 100000 in
theorem ra248 : RowsAt 248 := by
  intro q hq pc i lk hf
  cases (show gMt[248]? = some (({ cls := "OutwardDoorsModel", name := "aim", desc := "(II)I" } : Jvm.MethodName), prog_14_method_81_code, 4, (Option.some Jvm.ClassFile.FieldType.int)) from rfl).symm.trans hq
  have e : ini? (({ cls := "OutwardDoorsModel", name := "aim", desc := "(II)I" } : Jvm.MethodName), prog_14_method_81_code, 4, (Option.some Jvm.ClassFile.FieldType.int)) = false := by decide
  rw [e]
  exact rows_of ck248 (by decide +kernel) rfl hf
set_option maxRecDepth 100000 in
theorem ra249 : RowsAt 249 := by
  intro q hq pc i lk hf
  cases (show gMt[249]? = some (({ cls := "OutwardDoorsModel", name := "send", desc := "(III)Z" } : Jvm.MethodName), prog_14_method_82_code, 4, (Option.some Jvm.ClassFile.FieldType.boolean)) from rfl).symm.trans hq
  have e : ini? (({ cls := "OutwardDoorsModel", name := "send", desc := "(III)Z" } : Jvm.MethodName), prog_14_method_82_code, 4, (Option.some Jvm.ClassFile.FieldType.boolean)) = false := by decide
  rw [e]
  exact rows_of ck249 (by decide +kernel) rfl hf
set_option maxRecDepth 100000 in
theorem ra250 : RowsAt 250 := by
  intro q hq pc i lk hf
  cases (show gMt[250]? = some (({ cls := "OutwardDoorsModel", name := "ahead", desc := "(II)I" } : Jvm.MethodName), prog_14_method_85_code, 4, (Option.some Jvm.ClassFile.FieldType.int)) from rfl).symm.trans hq
  have e : ini? (({ cls := "OutwardDoorsModel", name := "ahead", desc := "(II)I" } : Jvm.MethodName), prog_14_method_85_code, 4, (Option.some Jvm.ClassFile.FieldType.int)) = false := by decide
  rw [e]
  exact rows_of ck250 (by decide +kernel) rfl hf
set_option maxRecDepth 100000 in
theorem ra251 : RowsAt 251 := by
  intro q hq pc i lk hf
  cases (show gMt[251]? = some (({ cls := "OutwardDoorsModel", name := "keeps", desc := "()V" } : Jvm.MethodName), prog_14_method_83_code, 2, (Option.none : Option Jvm.ClassFile.FieldType)) from rfl).symm.trans hq
  have e : ini? (({ cls := "OutwardDoorsModel", name := "keeps", desc := "()V" } : Jvm.MethodName), prog_14_method_83_code, 2, (Option.none : Option Jvm.ClassFile.FieldType)) = false := by decide
  rw [e]
  exact rows_of ck251 (by decide +kernel) rfl hf
set_option maxRecDepth 100000 in
theorem ra252 : RowsAt 252 := by
  intro q hq pc i lk hf
  cases (show gMt[252]? = some (({ cls := "OutwardDoorsModel", name := "laysBack", desc := "()V" } : Jvm.MethodName), prog_14_method_84_code, 2, (Option.none : Option Jvm.ClassFile.FieldType)) from rfl).symm.trans hq
  have e : ini? (({ cls := "OutwardDoorsModel", name := "laysBack", desc := "()V" } : Jvm.MethodName), prog_14_method_84_code, 2, (Option.none : Option Jvm.ClassFile.FieldType)) = false := by decide
  rw [e]
  exact rows_of ck252 (by decide +kernel) rfl hf
set_option maxRecDepth 100000 in
theorem ra253 : RowsAt 253 := by
  intro q hq pc i lk hf
  cases (show gMt[253]? = some (({ cls := "OutwardDoorsModel", name := "comes", desc := "(I)I" } : Jvm.MethodName), prog_14_method_86_code, 4, (Option.some Jvm.ClassFile.FieldType.int)) from rfl).symm.trans hq
  have e : ini? (({ cls := "OutwardDoorsModel", name := "comes", desc := "(I)I" } : Jvm.MethodName), prog_14_method_86_code, 4, (Option.some Jvm.ClassFile.FieldType.int)) = false := by decide
  rw [e]
  exact rows_of ck253 (by decide +kernel) rfl hf
set_option maxRecDepth 100000 in
theorem ra254 : RowsAt 254 := by
  intro q hq pc i lk hf
  cases (show gMt[254]? = some (({ cls := "OutwardDoorsModel", name := "fewest", desc := "(I)I" } : Jvm.MethodName), prog_14_method_98_code, 3, (Option.some Jvm.ClassFile.FieldType.int)) from rfl).symm.trans hq
  have e : ini? (({ cls := "OutwardDoorsModel", name := "fewest", desc := "(I)I" } : Jvm.MethodName), prog_14_method_98_code, 3, (Option.some Jvm.ClassFile.FieldType.int)) = false := by decide
  rw [e]
  exact rows_of ck254 (by decide +kernel) rfl hf
set_option maxRecDepth 100000 in
theorem ra255 : RowsAt 255 := by
  intro q hq pc i lk hf
  cases (show gMt[255]? = some (({ cls := "OutwardDoorsModel", name := "isSet", desc := "(I)Z" } : Jvm.MethodName), prog_14_method_97_code, 2, (Option.some Jvm.ClassFile.FieldType.boolean)) from rfl).symm.trans hq
  have e : ini? (({ cls := "OutwardDoorsModel", name := "isSet", desc := "(I)Z" } : Jvm.MethodName), prog_14_method_97_code, 2, (Option.some Jvm.ClassFile.FieldType.boolean)) = false := by decide
  rw [e]
  exact rows_of ck255 (by decide +kernel) rfl hf
set_option maxRecDepth 100000 in
theorem ra256 : RowsAt 256 := by
  intro q hq pc i lk hf
  cases (show gMt[256]? = some (({ cls := "OutwardDoorsModel", name := "fillsPassings", desc := "(III)V" } : Jvm.MethodName), prog_14_method_96_code, 5, (Option.none : Option Jvm.ClassFile.FieldType)) from rfl).symm.trans hq
  have e : ini? (({ cls := "OutwardDoorsModel", name := "fillsPassings", desc := "(III)V" } : Jvm.MethodName), prog_14_method_96_code, 5, (Option.none : Option Jvm.ClassFile.FieldType)) = false := by decide
  rw [e]
  exact rows_of ck256 (by decide +kernel) rfl hf
set_option maxRecDepth 100000 in
theorem ra257 : RowsAt 257 := by
  intro q hq pc i lk hf
  cases (show gMt[257]? = some (({ cls := "OutwardDoorsModel", name := "clears", desc := "(I)V" } : Jvm.MethodName), prog_14_method_95_code, 3, (Option.none : Option Jvm.ClassFile.FieldType)) from rfl).symm.trans hq
  have e : ini? (({ cls := "OutwardDoorsModel", name := "clears", desc := "(I)V" } : Jvm.MethodName), prog_14_method_95_code, 3, (Option.none : Option Jvm.ClassFile.FieldType)) = false := by decide
  rw [e]
  exact rows_of ck257 (by decide +kernel) rfl hf
set_option maxRecDepth 100000 in
theorem ra258 : RowsAt 258 := by
  intro q hq pc i lk hf
  cases (show gMt[258]? = some (({ cls := "OutwardDoorsModel", name := "power", desc := "(I)I" } : Jvm.MethodName), prog_14_method_87_code, 4, (Option.some Jvm.ClassFile.FieldType.int)) from rfl).symm.trans hq
  have e : ini? (({ cls := "OutwardDoorsModel", name := "power", desc := "(I)I" } : Jvm.MethodName), prog_14_method_87_code, 4, (Option.some Jvm.ClassFile.FieldType.int)) = false := by decide
  rw [e]
  exact rows_of ck258 (by decide +kernel) rfl hf
set_option maxRecDepth 100000 in
theorem ra259 : RowsAt 259 := by
  intro q hq pc i lk hf
  cases (show gMt[259]? = some (({ cls := "OutwardDoorsModel", name := "areAtGoals", desc := "(II)Z" } : Jvm.MethodName), prog_14_method_91_code, 4, (Option.some Jvm.ClassFile.FieldType.boolean)) from rfl).symm.trans hq
  have e : ini? (({ cls := "OutwardDoorsModel", name := "areAtGoals", desc := "(II)Z" } : Jvm.MethodName), prog_14_method_91_code, 4, (Option.some Jvm.ClassFile.FieldType.boolean)) = false := by decide
  rw [e]
  exact rows_of ck259 (by decide +kernel) rfl hf
set_option maxRecDepth 100000 in
theorem ra260 : RowsAt 260 := by
  intro q hq pc i lk hf
  cases (show gMt[260]? = some (({ cls := "OutwardDoorsModel", name := "roomIn", desc := "(II)I" } : Jvm.MethodName), prog_14_method_88_code, 3, (Option.some Jvm.ClassFile.FieldType.int)) from rfl).symm.trans hq
  have e : ini? (({ cls := "OutwardDoorsModel", name := "roomIn", desc := "(II)I" } : Jvm.MethodName), prog_14_method_88_code, 3, (Option.some Jvm.ClassFile.FieldType.int)) = false := by decide
  rw [e]
  exact rows_of ck260 (by decide +kernel) rfl hf
set_option maxRecDepth 100000 in
theorem ra261 : RowsAt 261 := by
  intro q hq pc i lk hf
  cases (show gMt[261]? = some (({ cls := "OutwardDoorsModel", name := "reaches", desc := "(II)V" } : Jvm.MethodName), prog_14_method_92_code, 3, (Option.none : Option Jvm.ClassFile.FieldType)) from rfl).symm.trans hq
  have e : ini? (({ cls := "OutwardDoorsModel", name := "reaches", desc := "(II)V" } : Jvm.MethodName), prog_14_method_92_code, 3, (Option.none : Option Jvm.ClassFile.FieldType)) = false := by decide
  rw [e]
  exact rows_of ck261 (by decide +kernel) rfl hf
set_option maxRecDepth 100000 in
theorem ra262 : RowsAt 262 := by
  intro q hq pc i lk hf
  cases (show gMt[262]? = some (({ cls := "OutwardDoorsModel", name := "goesBack", desc := "(I)V" } : Jvm.MethodName), prog_14_method_94_code, 3, (Option.none : Option Jvm.ClassFile.FieldType)) from rfl).symm.trans hq
  have e : ini? (({ cls := "OutwardDoorsModel", name := "goesBack", desc := "(I)V" } : Jvm.MethodName), prog_14_method_94_code, 3, (Option.none : Option Jvm.ClassFile.FieldType)) = false := by decide
  rw [e]
  exact rows_of ck262 (by decide +kernel) rfl hf
set_option maxRecDepth 100000 in
theorem ra263 : RowsAt 263 := by
  intro q hq pc i lk hf
  cases (show gMt[263]? = some (({ cls := "OutwardDoorsModel", name := "reachesBack", desc := "(II)V" } : Jvm.MethodName), prog_14_method_93_code, 8, (Option.none : Option Jvm.ClassFile.FieldType)) from rfl).symm.trans hq
  have e : ini? (({ cls := "OutwardDoorsModel", name := "reachesBack", desc := "(II)V" } : Jvm.MethodName), prog_14_method_93_code, 8, (Option.none : Option Jvm.ClassFile.FieldType)) = false := by decide
  rw [e]
  exact rows_of ck263 (by decide +kernel) rfl hf
set_option maxRecDepth 100000 in
theorem ra264 : RowsAt 264 := by
  intro q hq pc i lk hf
  cases (show gMt[264]? = some (({ cls := "OutwardDoorsModel", name := "moved", desc := "(III)I" } : Jvm.MethodName), prog_14_method_89_code, 4, (Option.some Jvm.ClassFile.FieldType.int)) from rfl).symm.trans hq
  have e : ini? (({ cls := "OutwardDoorsModel", name := "moved", desc := "(III)I" } : Jvm.MethodName), prog_14_method_89_code, 4, (Option.some Jvm.ClassFile.FieldType.int)) = false := by decide
  rw [e]
  exact rows_of ck264 (by decide +kernel) rfl hf
set_option maxRecDepth 100000 in
theorem ra265 : RowsAt 265 := by
  intro q hq pc i lk hf
  cases (show gMt[265]? = some (({ cls := "OutwardDoorsModel", name := "codeNow", desc := "()I" } : Jvm.MethodName), prog_14_method_90_code, 3, (Option.some Jvm.ClassFile.FieldType.int)) from rfl).symm.trans hq
  have e : ini? (({ cls := "OutwardDoorsModel", name := "codeNow", desc := "()I" } : Jvm.MethodName), prog_14_method_90_code, 3, (Option.some Jvm.ClassFile.FieldType.int)) = false := by decide
  rw [e]
  exact rows_of ck265 (by decide +kernel) rfl hf
set_option maxRecDepth 100000 in
theorem ra266 : RowsAt 266 := by
  intro q hq pc i lk hf
  cases (show gMt[266]? = some (({ cls := "OutwardDoorsModel", name := "passing", desc := "(III)I" } : Jvm.MethodName), prog_14_method_100_code, 6, (Option.some Jvm.ClassFile.FieldType.int)) from rfl).symm.trans hq
  have e : ini? (({ cls := "OutwardDoorsModel", name := "passing", desc := "(III)I" } : Jvm.MethodName), prog_14_method_100_code, 6, (Option.some Jvm.ClassFile.FieldType.int)) = false := by decide
  rw [e]
  exact rows_of ck266 (by decide +kernel) rfl hf
set_option maxRecDepth 100000 in
theorem ra267 : RowsAt 267 := by
  intro q hq pc i lk hf
  cases (show gMt[267]? = some (({ cls := "OutwardDoorsModel", name := "nextCode", desc := "(I)I" } : Jvm.MethodName), prog_14_method_99_code, 7, (Option.some Jvm.ClassFile.FieldType.int)) from rfl).symm.trans hq
  have e : ini? (({ cls := "OutwardDoorsModel", name := "nextCode", desc := "(I)I" } : Jvm.MethodName), prog_14_method_99_code, 7, (Option.some Jvm.ClassFile.FieldType.int)) = false := by decide
  rw [e]
  exact rows_of ck267 (by decide +kernel) rfl hf
set_option maxRecDepth 100000 in
theorem ra268 : RowsAt 268 := by
  intro q hq pc i lk hf
  cases (show gMt[268]? = some (({ cls := "OutwardDoorsModel", name := "caught", desc := "(I)I" } : Jvm.MethodName), prog_14_method_101_code, 6, (Option.some Jvm.ClassFile.FieldType.int)) from rfl).symm.trans hq
  have e : ini? (({ cls := "OutwardDoorsModel", name := "caught", desc := "(I)I" } : Jvm.MethodName), prog_14_method_101_code, 6, (Option.some Jvm.ClassFile.FieldType.int)) = false := by decide
  rw [e]
  exact rows_of ck268 (by decide +kernel) rfl hf
set_option maxRecDepth 100000 in
theorem ra269 : RowsAt 269 := by
  intro q hq pc i lk hf
  cases (show gMt[269]? = some (({ cls := "OutwardDoorsModel", name := "page", desc := "(II)I" } : Jvm.MethodName), prog_14_method_102_code, 7, (Option.some Jvm.ClassFile.FieldType.int)) from rfl).symm.trans hq
  have e : ini? (({ cls := "OutwardDoorsModel", name := "page", desc := "(II)I" } : Jvm.MethodName), prog_14_method_102_code, 7, (Option.some Jvm.ClassFile.FieldType.int)) = false := by decide
  rw [e]
  exact rows_of ck269 (by decide +kernel) rfl hf
set_option maxRecDepth 100000 in
theorem ra270 : RowsAt 270 := by
  intro q hq pc i lk hf
  cases (show gMt[270]? = some (({ cls := "OutwardDoorsModel", name := "price", desc := "(I)I" } : Jvm.MethodName), prog_14_method_104_code, 5, (Option.some Jvm.ClassFile.FieldType.int)) from rfl).symm.trans hq
  have e : ini? (({ cls := "OutwardDoorsModel", name := "price", desc := "(I)I" } : Jvm.MethodName), prog_14_method_104_code, 5, (Option.some Jvm.ClassFile.FieldType.int)) = false := by decide
  rw [e]
  exact rows_of ck270 (by decide +kernel) rfl hf
set_option maxRecDepth 100000 in
theorem ra271 : RowsAt 271 := by
  intro q hq pc i lk hf
  cases (show gMt[271]? = some (({ cls := "OutwardDoorsModel", name := "paysBack", desc := "(II)Z" } : Jvm.MethodName), prog_14_method_103_code, 10, (Option.some Jvm.ClassFile.FieldType.boolean)) from rfl).symm.trans hq
  have e : ini? (({ cls := "OutwardDoorsModel", name := "paysBack", desc := "(II)Z" } : Jvm.MethodName), prog_14_method_103_code, 10, (Option.some Jvm.ClassFile.FieldType.boolean)) = false := by decide
  rw [e]
  exact rows_of ck271 (by decide +kernel) rfl hf
set_option maxRecDepth 100000 in
theorem ra272 : RowsAt 272 := by
  intro q hq pc i lk hf
  cases (show gMt[272]? = some (({ cls := "OutwardDoorsModel", name := "turned", desc := "(II)I" } : Jvm.MethodName), prog_14_method_105_code, 4, (Option.some Jvm.ClassFile.FieldType.int)) from rfl).symm.trans hq
  have e : ini? (({ cls := "OutwardDoorsModel", name := "turned", desc := "(II)I" } : Jvm.MethodName), prog_14_method_105_code, 4, (Option.some Jvm.ClassFile.FieldType.int)) = false := by decide
  rw [e]
  exact rows_of ck272 (by decide +kernel) rfl hf
set_option maxRecDepth 100000 in
theorem ra273 : RowsAt 273 := by
  intro q hq pc i lk hf
  cases (show gMt[273]? = some (({ cls := "OutwardDoorsModel", name := "swap", desc := "(I)I" } : Jvm.MethodName), prog_14_method_107_code, 7, (Option.some Jvm.ClassFile.FieldType.int)) from rfl).symm.trans hq
  have e : ini? (({ cls := "OutwardDoorsModel", name := "swap", desc := "(I)I" } : Jvm.MethodName), prog_14_method_107_code, 7, (Option.some Jvm.ClassFile.FieldType.int)) = false := by decide
  rw [e]
  exact rows_of ck273 (by decide +kernel) rfl hf
set_option maxRecDepth 100000 in
theorem ra274 : RowsAt 274 := by
  intro q hq pc i lk hf
  cases (show gMt[274]? = some (({ cls := "OutwardDoorsModel", name := "isNearerAt", desc := "(II)Z" } : Jvm.MethodName), prog_14_method_106_code, 3, (Option.some Jvm.ClassFile.FieldType.boolean)) from rfl).symm.trans hq
  have e : ini? (({ cls := "OutwardDoorsModel", name := "isNearerAt", desc := "(II)Z" } : Jvm.MethodName), prog_14_method_106_code, 3, (Option.some Jvm.ClassFile.FieldType.boolean)) = false := by decide
  rw [e]
  exact rows_of ck274 (by decide +kernel) rfl hf
set_option maxRecDepth 100000 in
theorem ra275 : RowsAt 275 := by
  intro q hq pc i lk hf
  cases (show gMt[275]? = some (({ cls := "OutwardDoorsModel", name := "note", desc := "(III)I" } : Jvm.MethodName), prog_14_method_108_code, 5, (Option.some Jvm.ClassFile.FieldType.int)) from rfl).symm.trans hq
  have e : ini? (({ cls := "OutwardDoorsModel", name := "note", desc := "(III)I" } : Jvm.MethodName), prog_14_method_108_code, 5, (Option.some Jvm.ClassFile.FieldType.int)) = false := by decide
  rw [e]
  exact rows_of ck275 (by decide +kernel) rfl hf
set_option maxRecDepth 100000 in
theorem ra276 : RowsAt 276 := by
  intro q hq pc i lk hf
  cases (show gMt[276]? = some (({ cls := "OutwardDoorsModel", name := "ruled", desc := "(I)I" } : Jvm.MethodName), prog_14_method_112_code, 5, (Option.some Jvm.ClassFile.FieldType.int)) from rfl).symm.trans hq
  have e : ini? (({ cls := "OutwardDoorsModel", name := "ruled", desc := "(I)I" } : Jvm.MethodName), prog_14_method_112_code, 5, (Option.some Jvm.ClassFile.FieldType.int)) = false := by decide
  rw [e]
  exact rows_of ck276 (by decide +kernel) rfl hf
set_option maxRecDepth 100000 in
theorem ra277 : RowsAt 277 := by
  intro q hq pc i lk hf
  cases (show gMt[277]? = some (({ cls := "OutwardDoorsModel", name := "gathersRules", desc := "(I)V" } : Jvm.MethodName), prog_14_method_111_code, 6, (Option.none : Option Jvm.ClassFile.FieldType)) from rfl).symm.trans hq
  have e : ini? (({ cls := "OutwardDoorsModel", name := "gathersRules", desc := "(I)V" } : Jvm.MethodName), prog_14_method_111_code, 6, (Option.none : Option Jvm.ClassFile.FieldType)) = false := by decide
  rw [e]
  exact rows_of ck277 (by decide +kernel) rfl hf
set_option maxRecDepth 100000 in
theorem ra278 : RowsAt 278 := by
  intro q hq pc i lk hf
  cases (show gMt[278]? = some (({ cls := "OutwardDoorsModel", name := "begins", desc := "()V" } : Jvm.MethodName), prog_14_method_109_code, 3, (Option.none : Option Jvm.ClassFile.FieldType)) from rfl).symm.trans hq
  have e : ini? (({ cls := "OutwardDoorsModel", name := "begins", desc := "()V" } : Jvm.MethodName), prog_14_method_109_code, 3, (Option.none : Option Jvm.ClassFile.FieldType)) = false := by decide
  rw [e]
  exact rows_of ck278 (by decide +kernel) rfl hf
set_option maxRecDepth 100000 in
theorem ra279 : RowsAt 279 := by
  intro q hq pc i lk hf
  cases (show gMt[279]? = some (({ cls := "OutwardDoorsModel", name := "areNotesSo", desc := "()Z" } : Jvm.MethodName), prog_14_method_110_code, 3, (Option.some Jvm.ClassFile.FieldType.boolean)) from rfl).symm.trans hq
  have e : ini? (({ cls := "OutwardDoorsModel", name := "areNotesSo", desc := "()Z" } : Jvm.MethodName), prog_14_method_110_code, 3, (Option.some Jvm.ClassFile.FieldType.boolean)) = false := by decide
  rw [e]
  exact rows_of ck279 (by decide +kernel) rfl hf
set_option maxRecDepth 100000 in
theorem ra280 : RowsAt 280 := by
  intro q hq pc i lk hf
  cases (show gMt[280]? = some (({ cls := "OutwardDoorsModel", name := "look", desc := "(II)I" } : Jvm.MethodName), prog_14_method_114_code, 7, (Option.some Jvm.ClassFile.FieldType.int)) from rfl).symm.trans hq
  have e : ini? (({ cls := "OutwardDoorsModel", name := "look", desc := "(II)I" } : Jvm.MethodName), prog_14_method_114_code, 7, (Option.some Jvm.ClassFile.FieldType.int)) = false := by decide
  rw [e]
  exact rows_of ck280 (by decide +kernel) rfl hf
set_option maxRecDepth 100000 in
theorem ra281 : RowsAt 281 := by
  intro q hq pc i lk hf
  cases (show gMt[281]? = some (({ cls := "OutwardDoorsModel", name := "alikeOf", desc := "(I)I" } : Jvm.MethodName), prog_14_method_113_code, 6, (Option.some Jvm.ClassFile.FieldType.int)) from rfl).symm.trans hq
  have e : ini? (({ cls := "OutwardDoorsModel", name := "alikeOf", desc := "(I)I" } : Jvm.MethodName), prog_14_method_113_code, 6, (Option.some Jvm.ClassFile.FieldType.int)) = false := by decide
  rw [e]
  exact rows_of ck281 (by decide +kernel) rfl hf
set_option maxRecDepth 100000 in
theorem ra282 : RowsAt 282 := by
  intro q hq pc i lk hf
  cases (show gMt[282]? = some (({ cls := "OutwardDoorsModel", name := "seed", desc := "(I)I" } : Jvm.MethodName), prog_14_method_115_code, 3, (Option.some Jvm.ClassFile.FieldType.int)) from rfl).symm.trans hq
  have e : ini? (({ cls := "OutwardDoorsModel", name := "seed", desc := "(I)I" } : Jvm.MethodName), prog_14_method_115_code, 3, (Option.some Jvm.ClassFile.FieldType.int)) = false := by decide
  rw [e]
  exact rows_of ck282 (by decide +kernel) rfl hf
set_option maxRecDepth 100000 in
theorem ra283 : RowsAt 283 := by
  intro q hq pc i lk hf
  cases (show gMt[283]? = some (({ cls := "OutwardDoorsModel", name := "days", desc := "(III)I" } : Jvm.MethodName), prog_14_method_119_code, 8, (Option.some Jvm.ClassFile.FieldType.int)) from rfl).symm.trans hq
  have e : ini? (({ cls := "OutwardDoorsModel", name := "days", desc := "(III)I" } : Jvm.MethodName), prog_14_method_119_code, 8, (Option.some Jvm.ClassFile.FieldType.int)) = false := by decide
  rw [e]
  exact rows_of ck283 (by decide +kernel) rfl hf
set_option maxRecDepth 100000 in
theorem ra284 : RowsAt 284 := by
  intro q hq pc i lk hf
  cases (show gMt[284]? = some (({ cls := "OutwardDoorsModel", name := "countOf", desc := "(I)I" } : Jvm.MethodName), prog_14_method_118_code, 4, (Option.some Jvm.ClassFile.FieldType.int)) from rfl).symm.trans hq
  have e : ini? (({ cls := "OutwardDoorsModel", name := "countOf", desc := "(I)I" } : Jvm.MethodName), prog_14_method_118_code, 4, (Option.some Jvm.ClassFile.FieldType.int)) = false := by decide
  rw [e]
  exact rows_of ck284 (by decide +kernel) rfl hf
set_option maxRecDepth 100000 in
theorem ra285 : RowsAt 285 := by
  intro q hq pc i lk hf
  cases (show gMt[285]? = some (({ cls := "OutwardDoorsModel", name := "aimsDrawn", desc := "()V" } : Jvm.MethodName), prog_14_method_117_code, 2, (Option.none : Option Jvm.ClassFile.FieldType)) from rfl).symm.trans hq
  have e : ini? (({ cls := "OutwardDoorsModel", name := "aimsDrawn", desc := "()V" } : Jvm.MethodName), prog_14_method_117_code, 2, (Option.none : Option Jvm.ClassFile.FieldType)) = false := by decide
  rw [e]
  exact rows_of ck285 (by decide +kernel) rfl hf
set_option maxRecDepth 100000 in
theorem ra286 : RowsAt 286 := by
  intro q hq pc i lk hf
  cases (show gMt[286]? = some (({ cls := "OutwardDoorsModel", name := "draw", desc := "(I)I" } : Jvm.MethodName), prog_14_method_116_code, 2, (Option.some Jvm.ClassFile.FieldType.int)) from rfl).symm.trans hq
  have e : ini? (({ cls := "OutwardDoorsModel", name := "draw", desc := "(I)I" } : Jvm.MethodName), prog_14_method_116_code, 2, (Option.some Jvm.ClassFile.FieldType.int)) = false := by decide
  rw [e]
  exact rows_of ck286 (by decide +kernel) rfl hf
set_option maxRecDepth 100000 in
theorem ra287 : RowsAt 287 := by
  intro q hq pc i lk hf
  cases (show gMt[287]? = some (({ cls := "OutwardDoorsModel", name := "count", desc := "(I)I" } : Jvm.MethodName), prog_14_method_120_code, 2, (Option.some Jvm.ClassFile.FieldType.int)) from rfl).symm.trans hq
  have e : ini? (({ cls := "OutwardDoorsModel", name := "count", desc := "(I)I" } : Jvm.MethodName), prog_14_method_120_code, 2, (Option.some Jvm.ClassFile.FieldType.int)) = false := by decide
  rw [e]
  exact rows_of ck287 (by decide +kernel) rfl hf
set_option maxRecDepth 100000 in
theorem ra288 : RowsAt 288 := by
  intro q hq pc i lk hf
  cases (show gMt[288]? = some (({ cls := "OutwardDoorsModel", name := "image", desc := "(I)I" } : Jvm.MethodName), prog_14_method_121_code, 3, (Option.some Jvm.ClassFile.FieldType.int)) from rfl).symm.trans hq
  have e : ini? (({ cls := "OutwardDoorsModel", name := "image", desc := "(I)I" } : Jvm.MethodName), prog_14_method_121_code, 3, (Option.some Jvm.ClassFile.FieldType.int)) = false := by decide
  rw [e]
  exact rows_of ck288 (by decide +kernel) rfl hf
set_option maxRecDepth 100000 in
theorem ra289 : RowsAt 289 := by
  intro q hq pc i lk hf
  cases (show gMt[289]? = some (({ cls := "OutwardDoorsModel", name := "back", desc := "(I)I" } : Jvm.MethodName), prog_14_method_122_code, 3, (Option.some Jvm.ClassFile.FieldType.int)) from rfl).symm.trans hq
  have e : ini? (({ cls := "OutwardDoorsModel", name := "back", desc := "(I)I" } : Jvm.MethodName), prog_14_method_122_code, 3, (Option.some Jvm.ClassFile.FieldType.int)) = false := by decide
  rw [e]
  exact rows_of ck289 (by decide +kernel) rfl hf
set_option maxRecDepth 100000 in
theorem ra290 : RowsAt 290 := by
  intro q hq pc i lk hf
  cases (show gMt[290]? = some (({ cls := "OutwardDoorsLaw", name := "law", desc := "([I)Z" } : Jvm.MethodName), code, 4, (some .boolean)) from rfl).symm.trans hq
  have e : ini? (({ cls := "OutwardDoorsLaw", name := "law", desc := "([I)Z" } : Jvm.MethodName), code, 4, (some .boolean)) = false := by decide
  rw [e]
  exact rows_of ck290 (by decide +kernel) rfl hf
set_option maxRecDepth 100000 in
theorem ma0 : MthAt 0 := by
  intro q hq
  cases (show gMt[0]? = some (({ cls := "OutwardDoors", name := "<init>", desc := "()V" } : Jvm.MethodName), prog_1_method_1_code, 2, (Option.none : Option Jvm.ClassFile.FieldType)) from rfl).symm.trans hq
  exact ⟨wat_in (p := 169) (by decide +kernel), by decide, by decide, rfl⟩
set_option maxRecDepth 100000 in
theorem ma1 : MthAt 1 := by
  intro q hq
  cases (show gMt[1]? = some (({ cls := "OutwardDoors$Tape", name := "<init>", desc := "()V" } : Jvm.MethodName), prog_11_method_1_code, 1, (Option.none : Option Jvm.ClassFile.FieldType)) from rfl).symm.trans hq
  exact ⟨wat_in (p := 177) (by decide +kernel), by decide, by decide, rfl⟩
set_option maxRecDepth 100000 in
theorem ma2 : MthAt 2 := by
  intro q hq
  cases (show gMt[2]? = some (({ cls := "OutwardDoors$CastleReader", name := "<init>", desc := "(LOutwardDoors$Tape;)V" } : Jvm.MethodName), prog_2_method_1_code, 2, (Option.none : Option Jvm.ClassFile.FieldType)) from rfl).symm.trans hq
  exact ⟨wat_in (p := 212) (by decide +kernel), by decide, by decide, rfl⟩
set_option maxRecDepth 100000 in
theorem ma3 : MthAt 3 := by
  intro q hq
  cases (show gMt[3]? = some (({ cls := "OutwardDoors$Plan", name := "<init>", desc := "()V" } : Jvm.MethodName), prog_5_method_1_code, 1, (Option.none : Option Jvm.ClassFile.FieldType)) from rfl).symm.trans hq
  exact ⟨wat_in (p := 218) (by decide +kernel), by decide, by decide, rfl⟩
set_option maxRecDepth 100000 in
theorem ma4 : MthAt 4 := by
  intro q hq
  cases (show gMt[4]? = some (({ cls := "java/util/Arrays", name := "fill", desc := "([II)V" } : Jvm.MethodName), prog_21_method_103_code, 4, (Option.none : Option Jvm.ClassFile.FieldType)) from rfl).symm.trans hq
  exact ⟨wat_in (p := 222) (by decide +kernel), by decide, by decide, rfl⟩
set_option maxRecDepth 100000 in
theorem ma5 : MthAt 5 := by
  intro q hq
  cases (show gMt[5]? = some (({ cls := "OutwardDoors$Rule", name := "<init>", desc := "()V" } : Jvm.MethodName), prog_7_method_1_code, 1, (Option.none : Option Jvm.ClassFile.FieldType)) from rfl).symm.trans hq
  exact ⟨wat_in (p := 313) (by decide +kernel), by decide, by decide, rfl⟩
set_option maxRecDepth 100000 in
theorem ma6 : MthAt 6 := by
  intro q hq
  cases (show gMt[6]? = some (({ cls := "OutwardDoors$RuleReader", name := "<init>", desc := "(LOutwardDoors$Tape;LOutwardDoors$Rule;)V" } : Jvm.MethodName), prog_8_method_1_code, 3, (Option.none : Option Jvm.ClassFile.FieldType)) from rfl).symm.trans hq
  exact ⟨wat_in (p := 341) (by decide +kernel), by decide, by decide, rfl⟩
set_option maxRecDepth 100000 in
theorem ma7 : MthAt 7 := by
  intro q hq
  cases (show gMt[7]? = some (({ cls := "OutwardDoors$Rule", name := "becomeOne", desc := "()V" } : Jvm.MethodName), prog_7_method_4_code, 1, (Option.none : Option Jvm.ClassFile.FieldType)) from rfl).symm.trans hq
  exact ⟨wat_in (p := 356) (by decide +kernel), by decide, by decide, rfl⟩
set_option maxRecDepth 100000 in
theorem ma8 : MthAt 8 := by
  intro q hq
  cases (show gMt[8]? = some (({ cls := "OutwardDoors$Rule", name := "clear", desc := "()V" } : Jvm.MethodName), prog_7_method_3_code, 1, (Option.none : Option Jvm.ClassFile.FieldType)) from rfl).symm.trans hq
  exact ⟨wat_in (p := 360) (by decide +kernel), by decide, by decide, rfl⟩
set_option maxRecDepth 100000 in
theorem ma9 : MthAt 9 := by
  intro q hq
  cases (show gMt[9]? = some (({ cls := "OutwardDoors$Rule", name := "add", desc := "(II)V" } : Jvm.MethodName), prog_7_method_5_code, 3, (Option.none : Option Jvm.ClassFile.FieldType)) from rfl).symm.trans hq
  exact ⟨wat_in (p := 364) (by decide +kernel), by decide, by decide, rfl⟩
set_option maxRecDepth 100000 in
theorem ma10 : MthAt 10 := by
  intro q hq
  cases (show gMt[10]? = some (({ cls := "OutwardDoors$Rule", name := "addClause", desc := "(I)V" } : Jvm.MethodName), prog_7_method_6_code, 2, (Option.none : Option Jvm.ClassFile.FieldType)) from rfl).symm.trans hq
  exact ⟨wat_in (p := 368) (by decide +kernel), by decide, by decide, rfl⟩
set_option maxRecDepth 100000 in
theorem ma11 : MthAt 11 := by
  intro q hq
  cases (show gMt[11]? = some (({ cls := "OutwardDoors$Scene", name := "<init>", desc := "(LOutwardDoors$Plan;)V" } : Jvm.MethodName), prog_9_method_1_code, 2, (Option.none : Option Jvm.ClassFile.FieldType)) from rfl).symm.trans hq
  exact ⟨wat_in (p := 375) (by decide +kernel), by decide, by decide, rfl⟩
set_option maxRecDepth 100000 in
theorem ma12 : MthAt 12 := by
  intro q hq
  cases (show gMt[12]? = some (({ cls := "OutwardDoors$World", name := "<init>", desc := "()V" } : Jvm.MethodName), prog_12_method_1_code, 1, (Option.none : Option Jvm.ClassFile.FieldType)) from rfl).symm.trans hq
  exact ⟨wat_in (p := 381) (by decide +kernel), by decide, by decide, rfl⟩
set_option maxRecDepth 100000 in
theorem ma13 : MthAt 13 := by
  intro q hq
  cases (show gMt[13]? = some (({ cls := "OutwardDoors$Mover", name := "<init>", desc := "()V" } : Jvm.MethodName), prog_3_method_1_code, 1, (Option.none : Option Jvm.ClassFile.FieldType)) from rfl).symm.trans hq
  exact ⟨wat_in (p := 456) (by decide +kernel), by decide, by decide, rfl⟩
set_option maxRecDepth 100000 in
theorem ma14 : MthAt 14 := by
  intro q hq
  cases (show gMt[14]? = some (({ cls := "OutwardDoors$Search", name := "<init>", desc := "(LOutwardDoors$Plan;)V" } : Jvm.MethodName), prog_10_method_1_code, 2, (Option.none : Option Jvm.ClassFile.FieldType)) from rfl).symm.trans hq
  exact ⟨wat_in (p := 486) (by decide +kernel), by decide, by decide, rfl⟩
set_option maxRecDepth 100000 in
theorem ma15 : MthAt 15 := by
  intro q hq
  cases (show gMt[15]? = some (({ cls := "OutwardDoors$Passings", name := "<init>", desc := "(LOutwardDoors$Plan;)V" } : Jvm.MethodName), prog_4_method_1_code, 2, (Option.none : Option Jvm.ClassFile.FieldType)) from rfl).symm.trans hq
  exact ⟨wat_in (p := 489) (by decide +kernel), by decide, by decide, rfl⟩
set_option maxRecDepth 100000 in
theorem ma16 : MthAt 16 := by
  intro q hq
  cases (show gMt[16]? = some (({ cls := "OutwardDoors$Pricer", name := "<init>", desc := "(LOutwardDoors$Plan;)V" } : Jvm.MethodName), prog_6_method_1_code, 2, (Option.none : Option Jvm.ClassFile.FieldType)) from rfl).symm.trans hq
  exact ⟨wat_in (p := 524) (by decide +kernel), by decide, by decide, rfl⟩
set_option maxRecDepth 100000 in
theorem ma17 : MthAt 17 := by
  intro q hq
  cases (show gMt[17]? = some (({ cls := "OutwardDoors", name := "feed", desc := "(IIIII)I" } : Jvm.MethodName), prog_1_method_2_code, 6, (Option.some Jvm.ClassFile.FieldType.int)) from rfl).symm.trans hq
  exact ⟨wat_in (p := 601) (by decide +kernel), by decide, by decide, rfl⟩
set_option maxRecDepth 100000 in
theorem ma18 : MthAt 18 := by
  intro q hq
  cases (show gMt[18]? = some (({ cls := "OutwardDoors$Tape", name := "put", desc := "(I)V" } : Jvm.MethodName), prog_11_method_2_code, 3, (Option.none : Option Jvm.ClassFile.FieldType)) from rfl).symm.trans hq
  exact ⟨wat_in (p := 605) (by decide +kernel), by decide, by decide, rfl⟩
set_option maxRecDepth 100000 in
theorem ma19 : MthAt 19 := by
  intro q hq
  cases (show gMt[19]? = some (({ cls := "OutwardDoors", name := "end", desc := "(I)I" } : Jvm.MethodName), prog_1_method_3_code, 2, (Option.some Jvm.ClassFile.FieldType.int)) from rfl).symm.trans hq
  exact ⟨wat_in (p := 609) (by decide +kernel), by decide, by decide, rfl⟩
set_option maxRecDepth 100000 in
theorem ma20 : MthAt 20 := by
  intro q hq
  cases (show gMt[20]? = some (({ cls := "OutwardDoors", name := "castle", desc := "()I" } : Jvm.MethodName), prog_1_method_4_code, 2, (Option.some Jvm.ClassFile.FieldType.int)) from rfl).symm.trans hq
  exact ⟨wat_in (p := 613) (by decide +kernel), by decide, by decide, rfl⟩
set_option maxRecDepth 100000 in
theorem ma21 : MthAt 21 := by
  intro q hq
  cases (show gMt[21]? = some (({ cls := "OutwardDoors$CastleReader", name := "read", desc := "()V" } : Jvm.MethodName), prog_2_method_3_code, 3, (Option.none : Option Jvm.ClassFile.FieldType)) from rfl).symm.trans hq
  exact ⟨wat_in (p := 617) (by decide +kernel), by decide, by decide, rfl⟩
set_option maxRecDepth 100000 in
theorem ma22 : MthAt 22 := by
  intro q hq
  cases (show gMt[22]? = some (({ cls := "OutwardDoors$Plan", name := "clear", desc := "()V" } : Jvm.MethodName), prog_5_method_2_code, 2, (Option.none : Option Jvm.ClassFile.FieldType)) from rfl).symm.trans hq
  exact ⟨wat_in (p := 621) (by decide +kernel), by decide, by decide, rfl⟩
set_option maxRecDepth 100000 in
theorem ma23 : MthAt 23 := by
  intro q hq
  cases (show gMt[23]? = some (({ cls := "OutwardDoors$Tape", name := "open", desc := "()V" } : Jvm.MethodName), prog_11_method_3_code, 1, (Option.none : Option Jvm.ClassFile.FieldType)) from rfl).symm.trans hq
  exact ⟨wat_in (p := 625) (by decide +kernel), by decide, by decide, rfl⟩
set_option maxRecDepth 100000 in
theorem ma24 : MthAt 24 := by
  intro q hq
  cases (show gMt[24]? = some (({ cls := "OutwardDoors$Tape", name := "next", desc := "()V" } : Jvm.MethodName), prog_11_method_4_code, 2, (Option.none : Option Jvm.ClassFile.FieldType)) from rfl).symm.trans hq
  exact ⟨wat_in (p := 629) (by decide +kernel), by decide, by decide, rfl⟩
set_option maxRecDepth 100000 in
theorem ma25 : MthAt 25 := by
  intro q hq
  cases (show gMt[25]? = some (({ cls := "OutwardDoors$Tape", name := "isWithin", desc := "(III)Z" } : Jvm.MethodName), prog_11_method_5_code, 3, (Option.some Jvm.ClassFile.FieldType.boolean)) from rfl).symm.trans hq
  exact ⟨wat_in (p := 632) (by decide +kernel), by decide, by decide, rfl⟩
set_option maxRecDepth 100000 in
theorem ma26 : MthAt 26 := by
  intro q hq
  cases (show gMt[26]? = some (({ cls := "OutwardDoors$Tape", name := "behind", desc := "(III)I" } : Jvm.MethodName), prog_11_method_6_code, 5, (Option.some Jvm.ClassFile.FieldType.int)) from rfl).symm.trans hq
  exact ⟨wat_in (p := 636) (by decide +kernel), by decide, by decide, rfl⟩
set_option maxRecDepth 100000 in
theorem ma27 : MthAt 27 := by
  intro q hq
  cases (show gMt[27]? = some (({ cls := "OutwardDoors$Tape", name := "numberIn", desc := "(II)I" } : Jvm.MethodName), prog_11_method_7_code, 5, (Option.some Jvm.ClassFile.FieldType.int)) from rfl).symm.trans hq
  exact ⟨wat_in (p := 640) (by decide +kernel), by decide, by decide, rfl⟩
set_option maxRecDepth 100000 in
theorem ma28 : MthAt 28 := by
  intro q hq
  cases (show gMt[28]? = some (({ cls := "OutwardDoors$Tape", name := "scanMark", desc := "(I)V" } : Jvm.MethodName), prog_11_method_8_code, 3, (Option.none : Option Jvm.ClassFile.FieldType)) from rfl).symm.trans hq
  exact ⟨wat_in (p := 644) (by decide +kernel), by decide, by decide, rfl⟩
set_option maxRecDepth 100000 in
theorem ma29 : MthAt 29 := by
  intro q hq
  cases (show gMt[29]? = some (({ cls := "OutwardDoors$CastleReader", name := "readClause", desc := "()V" } : Jvm.MethodName), prog_2_method_4_code, 2, (Option.none : Option Jvm.ClassFile.FieldType)) from rfl).symm.trans hq
  exact ⟨wat_in (p := 648) (by decide +kernel), by decide, by decide, rfl⟩
set_option maxRecDepth 100000 in
theorem ma30 : MthAt 30 := by
  intro q hq
  cases (show gMt[30]? = some (({ cls := "OutwardDoors$CastleReader", name := "clauseWord", desc := "()I" } : Jvm.MethodName), prog_2_method_5_code, 1, (Option.some Jvm.ClassFile.FieldType.int)) from rfl).symm.trans hq
  exact ⟨wat_in (p := 652) (by decide +kernel), by decide, by decide, rfl⟩
set_option maxRecDepth 100000 in
theorem ma31 : MthAt 31 := by
  intro q hq
  cases (show gMt[31]? = some (({ cls := "OutwardDoors$Tape", name := "isWord", desc := "(Ljava/lang/String;)Z" } : Jvm.MethodName), prog_11_method_9_code, 3, (Option.some Jvm.ClassFile.FieldType.boolean)) from rfl).symm.trans hq
  exact ⟨wat_in (p := 657) (by decide +kernel), by decide, by decide, rfl⟩
set_option maxRecDepth 100000 in
theorem ma32 : MthAt 32 := by
  intro q hq
  cases (show gMt[32]? = some (({ cls := "OutwardDoors$Tape", name := "fail", desc := "(I)V" } : Jvm.MethodName), prog_11_method_11_code, 2, (Option.none : Option Jvm.ClassFile.FieldType)) from rfl).symm.trans hq
  exact ⟨wat_in (p := 714) (by decide +kernel), by decide, by decide, rfl⟩
set_option maxRecDepth 100000 in
theorem ma33 : MthAt 33 := by
  intro q hq
  cases (show gMt[33]? = some (({ cls := "OutwardDoors$CastleReader", name := "isOutOfPlace", desc := "(I)Z" } : Jvm.MethodName), prog_2_method_6_code, 2, (Option.some Jvm.ClassFile.FieldType.boolean)) from rfl).symm.trans hq
  exact ⟨wat_in (p := 718) (by decide +kernel), by decide, by decide, rfl⟩
set_option maxRecDepth 100000 in
theorem ma34 : MthAt 34 := by
  intro q hq
  cases (show gMt[34]? = some (({ cls := "OutwardDoors$Plan", name := "hasNight", desc := "()Z" } : Jvm.MethodName), prog_5_method_3_code, 1, (Option.some Jvm.ClassFile.FieldType.boolean)) from rfl).symm.trans hq
  exact ⟨wat_in (p := 722) (by decide +kernel), by decide, by decide, rfl⟩
set_option maxRecDepth 100000 in
theorem ma35 : MthAt 35 := by
  intro q hq
  cases (show gMt[35]? = some (({ cls := "OutwardDoors$Tape", name := "takeNumber", desc := "(III)I" } : Jvm.MethodName), prog_11_method_12_code, 5, (Option.some Jvm.ClassFile.FieldType.int)) from rfl).symm.trans hq
  exact ⟨wat_in (p := 727) (by decide +kernel), by decide, by decide, rfl⟩
set_option maxRecDepth 100000 in
theorem ma36 : MthAt 36 := by
  intro q hq
  cases (show gMt[36]? = some (({ cls := "OutwardDoors$CastleReader", name := "readFar", desc := "()V" } : Jvm.MethodName), prog_2_method_7_code, 3, (Option.none : Option Jvm.ClassFile.FieldType)) from rfl).symm.trans hq
  exact ⟨wat_in (p := 732) (by decide +kernel), by decide, by decide, rfl⟩
set_option maxRecDepth 100000 in
theorem ma37 : MthAt 37 := by
  intro q hq
  cases (show gMt[37]? = some (({ cls := "OutwardDoors$CastleReader", name := "readNight", desc := "()V" } : Jvm.MethodName), prog_2_method_9_code, 3, (Option.none : Option Jvm.ClassFile.FieldType)) from rfl).symm.trans hq
  exact ⟨wat_in (p := 736) (by decide +kernel), by decide, by decide, rfl⟩
set_option maxRecDepth 100000 in
theorem ma38 : MthAt 38 := by
  intro q hq
  cases (show gMt[38]? = some (({ cls := "OutwardDoors$CastleReader", name := "readPerson", desc := "()V" } : Jvm.MethodName), prog_2_method_10_code, 4, (Option.none : Option Jvm.ClassFile.FieldType)) from rfl).symm.trans hq
  exact ⟨wat_in (p := 740) (by decide +kernel), by decide, by decide, rfl⟩
set_option maxRecDepth 100000 in
theorem ma39 : MthAt 39 := by
  intro q hq
  cases (show gMt[39]? = some (({ cls := "OutwardDoors$Plan", name := "addPerson", desc := "(III)V" } : Jvm.MethodName), prog_5_method_6_code, 4, (Option.none : Option Jvm.ClassFile.FieldType)) from rfl).symm.trans hq
  exact ⟨wat_in (p := 744) (by decide +kernel), by decide, by decide, rfl⟩
set_option maxRecDepth 100000 in
theorem ma40 : MthAt 40 := by
  intro q hq
  cases (show gMt[40]? = some (({ cls := "OutwardDoors$CastleReader", name := "readDoor", desc := "(Z)V" } : Jvm.MethodName), prog_2_method_8_code, 4, (Option.none : Option Jvm.ClassFile.FieldType)) from rfl).symm.trans hq
  exact ⟨wat_in (p := 748) (by decide +kernel), by decide, by decide, rfl⟩
set_option maxRecDepth 100000 in
theorem ma41 : MthAt 41 := by
  intro q hq
  cases (show gMt[41]? = some (({ cls := "OutwardDoors$Plan", name := "joinedTo", desc := "(I)I" } : Jvm.MethodName), prog_5_method_4_code, 4, (Option.some Jvm.ClassFile.FieldType.int)) from rfl).symm.trans hq
  exact ⟨wat_in (p := 752) (by decide +kernel), by decide, by decide, rfl⟩
set_option maxRecDepth 100000 in
theorem ma42 : MthAt 42 := by
  intro q hq
  cases (show gMt[42]? = some (({ cls := "OutwardDoors$Plan", name := "doorBetween", desc := "(II)I" } : Jvm.MethodName), prog_5_method_12_code, 3, (Option.some Jvm.ClassFile.FieldType.int)) from rfl).symm.trans hq
  exact ⟨wat_in (p := 756) (by decide +kernel), by decide, by decide, rfl⟩
set_option maxRecDepth 100000 in
theorem ma43 : MthAt 43 := by
  intro q hq
  cases (show gMt[43]? = some (({ cls := "OutwardDoors$Plan", name := "addDoor", desc := "(IIZ)V" } : Jvm.MethodName), prog_5_method_5_code, 4, (Option.none : Option Jvm.ClassFile.FieldType)) from rfl).symm.trans hq
  exact ⟨wat_in (p := 760) (by decide +kernel), by decide, by decide, rfl⟩
set_option maxRecDepth 100000 in
theorem ma44 : MthAt 44 := by
  intro q hq
  cases (show gMt[44]? = some (({ cls := "OutwardDoors$Tape", name := "goesOn", desc := "()Z" } : Jvm.MethodName), prog_11_method_13_code, 1, (Option.some Jvm.ClassFile.FieldType.boolean)) from rfl).symm.trans hq
  exact ⟨wat_in (p := 764) (by decide +kernel), by decide, by decide, rfl⟩
set_option maxRecDepth 100000 in
theorem ma45 : MthAt 45 := by
  intro q hq
  cases (show gMt[45]? = some (({ cls := "OutwardDoors$Tape", name := "isMark", desc := "(I)Z" } : Jvm.MethodName), prog_11_method_10_code, 2, (Option.some Jvm.ClassFile.FieldType.boolean)) from rfl).symm.trans hq
  exact ⟨wat_in (p := 768) (by decide +kernel), by decide, by decide, rfl⟩
set_option maxRecDepth 100000 in
theorem ma46 : MthAt 46 := by
  intro q hq
  cases (show gMt[46]? = some (({ cls := "OutwardDoors$Plan", name := "finish", desc := "()V" } : Jvm.MethodName), prog_5_method_7_code, 4, (Option.none : Option Jvm.ClassFile.FieldType)) from rfl).symm.trans hq
  exact ⟨wat_in (p := 772) (by decide +kernel), by decide, by decide, rfl⟩
set_option maxRecDepth 100000 in
theorem ma47 : MthAt 47 := by
  intro q hq
  cases (show gMt[47]? = some (({ cls := "OutwardDoors$Plan", name := "openDoors", desc := "(I)V" } : Jvm.MethodName), prog_5_method_8_code, 4, (Option.none : Option Jvm.ClassFile.FieldType)) from rfl).symm.trans hq
  exact ⟨wat_in (p := 776) (by decide +kernel), by decide, by decide, rfl⟩
set_option maxRecDepth 100000 in
theorem ma48 : MthAt 48 := by
  intro q hq
  cases (show gMt[48]? = some (({ cls := "java/util/Arrays", name := "fill", desc := "([IIII)V" } : Jvm.MethodName), prog_21_method_104_code, 5, (Option.none : Option Jvm.ClassFile.FieldType)) from rfl).symm.trans hq
  exact ⟨wat_in (p := 779) (by decide +kernel), by decide, by decide, rfl⟩
set_option maxRecDepth 100000 in
theorem ma49 : MthAt 49 := by
  intro q hq
  cases (show gMt[49]? = some (({ cls := "java/util/Arrays", name := "rangeCheck", desc := "(III)V" } : Jvm.MethodName), prog_21_method_30_code, 3, (Option.none : Option Jvm.ClassFile.FieldType)) from rfl).symm.trans hq
  exact ⟨wat_in (p := 782) (by decide +kernel), by decide, by decide, rfl⟩
set_option maxRecDepth 100000 in
theorem ma50 : MthAt 50 := by
  intro q hq
  cases (show gMt[50]? = some (({ cls := "OutwardDoors$Plan", name := "measure", desc := "(I)V" } : Jvm.MethodName), prog_5_method_9_code, 6, (Option.none : Option Jvm.ClassFile.FieldType)) from rfl).symm.trans hq
  exact ⟨wat_in (p := 786) (by decide +kernel), by decide, by decide, rfl⟩
set_option maxRecDepth 100000 in
theorem ma51 : MthAt 51 := by
  intro q hq
  cases (show gMt[51]? = some (({ cls := "OutwardDoors$Plan", name := "isBeside", desc := "(III)Z" } : Jvm.MethodName), prog_5_method_14_code, 5, (Option.some Jvm.ClassFile.FieldType.boolean)) from rfl).symm.trans hq
  exact ⟨wat_in (p := 790) (by decide +kernel), by decide, by decide, rfl⟩
set_option maxRecDepth 100000 in
theorem ma52 : MthAt 52 := by
  intro q hq
  cases (show gMt[52]? = some (({ cls := "OutwardDoors$Plan", name := "canPass", desc := "(II)Z" } : Jvm.MethodName), prog_5_method_13_code, 3, (Option.some Jvm.ClassFile.FieldType.boolean)) from rfl).symm.trans hq
  exact ⟨wat_in (p := 794) (by decide +kernel), by decide, by decide, rfl⟩
set_option maxRecDepth 100000 in
theorem ma53 : MthAt 53 := by
  intro q hq
  cases (show gMt[53]? = some (({ cls := "OutwardDoors$Plan", name := "leftIndex", desc := "(III)I" } : Jvm.MethodName), prog_5_method_10_code, 3, (Option.some Jvm.ClassFile.FieldType.int)) from rfl).symm.trans hq
  exact ⟨wat_in (p := 797) (by decide +kernel), by decide, by decide, rfl⟩
set_option maxRecDepth 100000 in
theorem ma54 : MthAt 54 := by
  intro q hq
  cases (show gMt[54]? = some (({ cls := "OutwardDoors$Plan", name := "left", desc := "(III)I" } : Jvm.MethodName), prog_5_method_16_code, 4, (Option.some Jvm.ClassFile.FieldType.int)) from rfl).symm.trans hq
  exact ⟨wat_in (p := 801) (by decide +kernel), by decide, by decide, rfl⟩
set_option maxRecDepth 100000 in
theorem ma55 : MthAt 55 := by
  intro q hq
  cases (show gMt[55]? = some (({ cls := "OutwardDoors$CastleReader", name := "takePlan", desc := "()LOutwardDoors$Plan;" } : Jvm.MethodName), prog_2_method_2_code, 2, (Option.some (Jvm.ClassFile.FieldType.object "OutwardDoors$Plan"))) from rfl).symm.trans hq
  exact ⟨wat_in (p := 805) (by decide +kernel), by decide, by decide, rfl⟩
set_option maxRecDepth 100000 in
theorem ma56 : MthAt 56 := by
  intro q hq
  cases (show gMt[56]? = some (({ cls := "OutwardDoors$World", name := "begin", desc := "(LOutwardDoors$Plan;)V" } : Jvm.MethodName), prog_12_method_2_code, 2, (Option.none : Option Jvm.ClassFile.FieldType)) from rfl).symm.trans hq
  exact ⟨wat_in (p := 809) (by decide +kernel), by decide, by decide, rfl⟩
set_option maxRecDepth 100000 in
theorem ma57 : MthAt 57 := by
  intro q hq
  cases (show gMt[57]? = some (({ cls := "OutwardDoors", name := "rule", desc := "()I" } : Jvm.MethodName), prog_1_method_5_code, 2, (Option.some Jvm.ClassFile.FieldType.int)) from rfl).symm.trans hq
  exact ⟨wat_in (p := 817) (by decide +kernel), by decide, by decide, rfl⟩
set_option maxRecDepth 100000 in
theorem ma58 : MthAt 58 := by
  intro q hq
  cases (show gMt[58]? = some (({ cls := "OutwardDoors$RuleReader", name := "read", desc := "(LOutwardDoors$Rule;)V" } : Jvm.MethodName), prog_8_method_2_code, 5, (Option.none : Option Jvm.ClassFile.FieldType)) from rfl).symm.trans hq
  exact ⟨wat_in (p := 821) (by decide +kernel), by decide, by decide, rfl⟩
set_option maxRecDepth 100000 in
theorem ma59 : MthAt 59 := by
  intro q hq
  cases (show gMt[59]? = some (({ cls := "OutwardDoors$RuleReader", name := "mayGo", desc := "()Z" } : Jvm.MethodName), prog_8_method_3_code, 1, (Option.some Jvm.ClassFile.FieldType.boolean)) from rfl).symm.trans hq
  exact ⟨wat_in (p := 827) (by decide +kernel), by decide, by decide, rfl⟩
set_option maxRecDepth 100000 in
theorem ma60 : MthAt 60 := by
  intro q hq
  cases (show gMt[60]? = some (({ cls := "OutwardDoors$RuleReader", name := "readSum", desc := "()V" } : Jvm.MethodName), prog_8_method_9_code, 7, (Option.none : Option Jvm.ClassFile.FieldType)) from rfl).symm.trans hq
  exact ⟨wat_in (p := 835) (by decide +kernel), by decide, by decide, rfl⟩
set_option maxRecDepth 100000 in
theorem ma61 : MthAt 61 := by
  intro q hq
  cases (show gMt[61]? = some (({ cls := "OutwardDoors$RuleReader", name := "readValue", desc := "()V" } : Jvm.MethodName), prog_8_method_12_code, 4, (Option.none : Option Jvm.ClassFile.FieldType)) from rfl).symm.trans hq
  exact ⟨wat_in (p := 839) (by decide +kernel), by decide, by decide, rfl⟩
set_option maxRecDepth 100000 in
theorem ma62 : MthAt 62 := by
  intro q hq
  cases (show gMt[62]? = some (({ cls := "OutwardDoors$Rule", name := "wordName", desc := "(I)Ljava/lang/String;" } : Jvm.MethodName), prog_7_method_2_code, 1, (Option.some (Jvm.ClassFile.FieldType.object "java/lang/String"))) from rfl).symm.trans hq
  exact ⟨wat_in (p := 842) (by decide +kernel), by decide, by decide, rfl⟩
set_option maxRecDepth 100000 in
theorem ma63 : MthAt 63 := by
  intro q hq
  cases (show gMt[63]? = some (({ cls := "OutwardDoors$RuleReader", name := "addPending", desc := "(I)V" } : Jvm.MethodName), prog_8_method_10_code, 2, (Option.none : Option Jvm.ClassFile.FieldType)) from rfl).symm.trans hq
  exact ⟨wat_in (p := 859) (by decide +kernel), by decide, by decide, rfl⟩
set_option maxRecDepth 100000 in
theorem ma64 : MthAt 64 := by
  intro q hq
  cases (show gMt[64]? = some (({ cls := "OutwardDoors$RuleReader", name := "timesOperation", desc := "()I" } : Jvm.MethodName), prog_8_method_13_code, 2, (Option.some Jvm.ClassFile.FieldType.int)) from rfl).symm.trans hq
  exact ⟨wat_in (p := 863) (by decide +kernel), by decide, by decide, rfl⟩
set_option maxRecDepth 100000 in
theorem ma65 : MthAt 65 := by
  intro q hq
  cases (show gMt[65]? = some (({ cls := "OutwardDoors$RuleReader", name := "operationAmong", desc := "(IIII)I" } : Jvm.MethodName), prog_8_method_14_code, 5, (Option.some Jvm.ClassFile.FieldType.int)) from rfl).symm.trans hq
  exact ⟨wat_in (p := 867) (by decide +kernel), by decide, by decide, rfl⟩
set_option maxRecDepth 100000 in
theorem ma66 : MthAt 66 := by
  intro q hq
  cases (show gMt[66]? = some (({ cls := "OutwardDoors$RuleReader", name := "passesOver", desc := "(I)Z" } : Jvm.MethodName), prog_8_method_11_code, 3, (Option.some Jvm.ClassFile.FieldType.boolean)) from rfl).symm.trans hq
  exact ⟨wat_in (p := 872) (by decide +kernel), by decide, by decide, rfl⟩
set_option maxRecDepth 100000 in
theorem ma67 : MthAt 67 := by
  intro q hq
  cases (show gMt[67]? = some (({ cls := "OutwardDoors$RuleReader", name := "takesWord", desc := "(Ljava/lang/String;)Z" } : Jvm.MethodName), prog_8_method_4_code, 3, (Option.some Jvm.ClassFile.FieldType.boolean)) from rfl).symm.trans hq
  exact ⟨wat_in (p := 877) (by decide +kernel), by decide, by decide, rfl⟩
set_option maxRecDepth 100000 in
theorem ma68 : MthAt 68 := by
  intro q hq
  cases (show gMt[68]? = some (({ cls := "OutwardDoors$RuleReader", name := "readTest", desc := "(I)V" } : Jvm.MethodName), prog_8_method_5_code, 6, (Option.none : Option Jvm.ClassFile.FieldType)) from rfl).symm.trans hq
  exact ⟨wat_in (p := 881) (by decide +kernel), by decide, by decide, rfl⟩
set_option maxRecDepth 100000 in
theorem ma69 : MthAt 69 := by
  intro q hq
  cases (show gMt[69]? = some (({ cls := "OutwardDoors$RuleReader", name := "readFact", desc := "(I)V" } : Jvm.MethodName), prog_8_method_6_code, 5, (Option.none : Option Jvm.ClassFile.FieldType)) from rfl).symm.trans hq
  exact ⟨wat_in (p := 885) (by decide +kernel), by decide, by decide, rfl⟩
set_option maxRecDepth 100000 in
theorem ma70 : MthAt 70 := by
  intro q hq
  cases (show gMt[70]? = some (({ cls := "OutwardDoors$RuleReader", name := "closeBracket", desc := "()V" } : Jvm.MethodName), prog_8_method_7_code, 1, (Option.none : Option Jvm.ClassFile.FieldType)) from rfl).symm.trans hq
  exact ⟨wat_in (p := 890) (by decide +kernel), by decide, by decide, rfl⟩
set_option maxRecDepth 100000 in
theorem ma71 : MthAt 71 := by
  intro q hq
  cases (show gMt[71]? = some (({ cls := "OutwardDoors$RuleReader", name := "signOperation", desc := "()I" } : Jvm.MethodName), prog_8_method_15_code, 2, (Option.some Jvm.ClassFile.FieldType.int)) from rfl).symm.trans hq
  exact ⟨wat_in (p := 894) (by decide +kernel), by decide, by decide, rfl⟩
set_option maxRecDepth 100000 in
theorem ma72 : MthAt 72 := by
  intro q hq
  cases (show gMt[72]? = some (({ cls := "OutwardDoors$RuleReader", name := "maySign", desc := "(I)Z" } : Jvm.MethodName), prog_8_method_8_code, 2, (Option.some Jvm.ClassFile.FieldType.boolean)) from rfl).symm.trans hq
  exact ⟨wat_in (p := 898) (by decide +kernel), by decide, by decide, rfl⟩
set_option maxRecDepth 100000 in
theorem ma73 : MthAt 73 := by
  intro q hq
  cases (show gMt[73]? = some (({ cls := "OutwardDoors", name := "force", desc := "(I)I" } : Jvm.MethodName), prog_1_method_6_code, 3, (Option.some Jvm.ClassFile.FieldType.int)) from rfl).symm.trans hq
  exact ⟨wat_in (p := 906) (by decide +kernel), by decide, by decide, rfl⟩
set_option maxRecDepth 100000 in
theorem ma74 : MthAt 74 := by
  intro q hq
  cases (show gMt[74]? = some (({ cls := "OutwardDoors", name := "person", desc := "(II)I" } : Jvm.MethodName), prog_1_method_7_code, 5, (Option.some Jvm.ClassFile.FieldType.int)) from rfl).symm.trans hq
  exact ⟨wat_in (p := 910) (by decide +kernel), by decide, by decide, rfl⟩
set_option maxRecDepth 100000 in
theorem ma75 : MthAt 75 := by
  intro q hq
  cases (show gMt[75]? = some (({ cls := "OutwardDoors", name := "isPerson", desc := "(I)Z" } : Jvm.MethodName), prog_1_method_32_code, 2, (Option.some Jvm.ClassFile.FieldType.boolean)) from rfl).symm.trans hq
  exact ⟨wat_in (p := 914) (by decide +kernel), by decide, by decide, rfl⟩
set_option maxRecDepth 100000 in
theorem ma76 : MthAt 76 := by
  intro q hq
  cases (show gMt[76]? = some (({ cls := "OutwardDoors", name := "hour", desc := "()I" } : Jvm.MethodName), prog_1_method_36_code, 1, (Option.some Jvm.ClassFile.FieldType.int)) from rfl).symm.trans hq
  exact ⟨wat_in (p := 918) (by decide +kernel), by decide, by decide, rfl⟩
set_option maxRecDepth 100000 in
theorem ma77 : MthAt 77 := by
  intro q hq
  cases (show gMt[77]? = some (({ cls := "OutwardDoors$Plan", name := "hour", desc := "(I)I" } : Jvm.MethodName), prog_5_method_11_code, 3, (Option.some Jvm.ClassFile.FieldType.int)) from rfl).symm.trans hq
  exact ⟨wat_in (p := 922) (by decide +kernel), by decide, by decide, rfl⟩
set_option maxRecDepth 100000 in
theorem ma78 : MthAt 78 := by
  intro q hq
  cases (show gMt[78]? = some (({ cls := "OutwardDoors$Plan", name := "step", desc := "(III)I" } : Jvm.MethodName), prog_5_method_17_code, 7, (Option.some Jvm.ClassFile.FieldType.int)) from rfl).symm.trans hq
  exact ⟨wat_in (p := 928) (by decide +kernel), by decide, by decide, rfl⟩
set_option maxRecDepth 100000 in
theorem ma79 : MthAt 79 := by
  intro q hq
  cases (show gMt[79]? = some (({ cls := "OutwardDoors", name := "room", desc := "(II)I" } : Jvm.MethodName), prog_1_method_8_code, 3, (Option.some Jvm.ClassFile.FieldType.int)) from rfl).symm.trans hq
  exact ⟨wat_in (p := 932) (by decide +kernel), by decide, by decide, rfl⟩
set_option maxRecDepth 100000 in
theorem ma80 : MthAt 80 := by
  intro q hq
  cases (show gMt[80]? = some (({ cls := "OutwardDoors", name := "isRoom", desc := "(I)Z" } : Jvm.MethodName), prog_1_method_33_code, 2, (Option.some Jvm.ClassFile.FieldType.boolean)) from rfl).symm.trans hq
  exact ⟨wat_in (p := 936) (by decide +kernel), by decide, by decide, rfl⟩
set_option maxRecDepth 100000 in
theorem ma81 : MthAt 81 := by
  intro q hq
  cases (show gMt[81]? = some (({ cls := "OutwardDoors$World", name := "peopleIn", desc := "(II)I" } : Jvm.MethodName), prog_12_method_6_code, 5, (Option.some Jvm.ClassFile.FieldType.int)) from rfl).symm.trans hq
  exact ⟨wat_in (p := 940) (by decide +kernel), by decide, by decide, rfl⟩
set_option maxRecDepth 100000 in
theorem ma82 : MthAt 82 := by
  intro q hq
  cases (show gMt[82]? = some (({ cls := "OutwardDoors$Plan", name := "outside", desc := "(II)I" } : Jvm.MethodName), prog_5_method_18_code, 6, (Option.some Jvm.ClassFile.FieldType.int)) from rfl).symm.trans hq
  exact ⟨wat_in (p := 944) (by decide +kernel), by decide, by decide, rfl⟩
set_option maxRecDepth 100000 in
theorem ma83 : MthAt 83 := by
  intro q hq
  cases (show gMt[83]? = some (({ cls := "OutwardDoors", name := "door", desc := "(II)I" } : Jvm.MethodName), prog_1_method_9_code, 4, (Option.some Jvm.ClassFile.FieldType.int)) from rfl).symm.trans hq
  exact ⟨wat_in (p := 948) (by decide +kernel), by decide, by decide, rfl⟩
set_option maxRecDepth 100000 in
theorem ma84 : MthAt 84 := by
  intro q hq
  cases (show gMt[84]? = some (({ cls := "OutwardDoors", name := "isDoor", desc := "(I)Z" } : Jvm.MethodName), prog_1_method_34_code, 2, (Option.some Jvm.ClassFile.FieldType.boolean)) from rfl).symm.trans hq
  exact ⟨wat_in (p := 952) (by decide +kernel), by decide, by decide, rfl⟩
set_option maxRecDepth 100000 in
theorem ma85 : MthAt 85 := by
  intro q hq
  cases (show gMt[85]? = some (({ cls := "OutwardDoors", name := "moment", desc := "()I" } : Jvm.MethodName), prog_1_method_10_code, 1, (Option.some Jvm.ClassFile.FieldType.int)) from rfl).symm.trans hq
  exact ⟨wat_in (p := 957) (by decide +kernel), by decide, by decide, rfl⟩
set_option maxRecDepth 100000 in
theorem ma86 : MthAt 86 := by
  intro q hq
  cases (show gMt[86]? = some (({ cls := "OutwardDoors", name := "hasCastle", desc := "()Z" } : Jvm.MethodName), prog_1_method_31_code, 1, (Option.some Jvm.ClassFile.FieldType.boolean)) from rfl).symm.trans hq
  exact ⟨wat_in (p := 961) (by decide +kernel), by decide, by decide, rfl⟩
set_option maxRecDepth 100000 in
theorem ma87 : MthAt 87 := by
  intro q hq
  cases (show gMt[87]? = some (({ cls := "OutwardDoors", name := "remember", desc := "()V" } : Jvm.MethodName), prog_1_method_38_code, 1, (Option.none : Option Jvm.ClassFile.FieldType)) from rfl).symm.trans hq
  exact ⟨wat_in (p := 965) (by decide +kernel), by decide, by decide, rfl⟩
set_option maxRecDepth 100000 in
theorem ma88 : MthAt 88 := by
  intro q hq
  cases (show gMt[88]? = some (({ cls := "OutwardDoors$World", name := "copyFrom", desc := "(LOutwardDoors$World;)V" } : Jvm.MethodName), prog_12_method_3_code, 2, (Option.none : Option Jvm.ClassFile.FieldType)) from rfl).symm.trans hq
  exact ⟨wat_in (p := 969) (by decide +kernel), by decide, by decide, rfl⟩
set_option maxRecDepth 100000 in
theorem ma89 : MthAt 89 := by
  intro q hq
  cases (show gMt[89]? = some (({ cls := "OutwardDoors", name := "ruleOf", desc := "(I)LOutwardDoors$Rule;" } : Jvm.MethodName), prog_1_method_37_code, 2, (Option.some (Jvm.ClassFile.FieldType.object "OutwardDoors$Rule"))) from rfl).symm.trans hq
  exact ⟨wat_in (p := 976) (by decide +kernel), by decide, by decide, rfl⟩
set_option maxRecDepth 100000 in
theorem ma90 : MthAt 90 := by
  intro q hq
  cases (show gMt[90]? = some (({ cls := "OutwardDoors$Mover", name := "advance", desc := "(LOutwardDoors$Plan;LOutwardDoors$World;LOutwardDoors$Rule;)V" } : Jvm.MethodName), prog_3_method_2_code, 6, (Option.none : Option Jvm.ClassFile.FieldType)) from rfl).symm.trans hq
  exact ⟨wat_in (p := 980) (by decide +kernel), by decide, by decide, rfl⟩
set_option maxRecDepth 100000 in
theorem ma91 : MthAt 91 := by
  intro q hq
  cases (show gMt[91]? = some (({ cls := "OutwardDoors$Mover", name := "tellWords", desc := "(LOutwardDoors$Plan;LOutwardDoors$World;I)V" } : Jvm.MethodName), prog_3_method_3_code, 9, (Option.none : Option Jvm.ClassFile.FieldType)) from rfl).symm.trans hq
  exact ⟨wat_in (p := 986) (by decide +kernel), by decide, by decide, rfl⟩
set_option maxRecDepth 100000 in
theorem ma92 : MthAt 92 := by
  intro q hq
  cases (show gMt[92]? = some (({ cls := "OutwardDoors$Rule", name := "will", desc := "([I)J" } : Jvm.MethodName), prog_7_method_7_code, 6, (Option.some Jvm.ClassFile.FieldType.long)) from rfl).symm.trans hq
  exact ⟨wat_in (p := 991) (by decide +kernel), by decide, by decide, rfl⟩
set_option maxRecDepth 100000 in
theorem ma93 : MthAt 93 := by
  intro q hq
  cases (show gMt[93]? = some (({ cls := "OutwardDoors$Rule", name := "worth", desc := "(II[I)J" } : Jvm.MethodName), prog_7_method_8_code, 8, (Option.some Jvm.ClassFile.FieldType.long)) from rfl).symm.trans hq
  exact ⟨wat_in (p := 995) (by decide +kernel), by decide, by decide, rfl⟩
set_option maxRecDepth 100000 in
theorem ma94 : MthAt 94 := by
  intro q hq
  cases (show gMt[94]? = some (({ cls := "OutwardDoors$Rule", name := "wordAt", desc := "([II)J" } : Jvm.MethodName), prog_7_method_9_code, 2, (Option.some Jvm.ClassFile.FieldType.long)) from rfl).symm.trans hq
  exact ⟨wat_in (p := 998) (by decide +kernel), by decide, by decide, rfl⟩
set_option maxRecDepth 100000 in
theorem ma95 : MthAt 95 := by
  intro q hq
  cases (show gMt[95]? = some (({ cls := "OutwardDoors$Rule", name := "joined", desc := "(IJJ)J" } : Jvm.MethodName), prog_7_method_10_code, 5, (Option.some Jvm.ClassFile.FieldType.long)) from rfl).symm.trans hq
  exact ⟨wat_in (p := 1001) (by decide +kernel), by decide, by decide, rfl⟩
set_option maxRecDepth 100000 in
theorem ma96 : MthAt 96 := by
  intro q hq
  cases (show gMt[96]? = some (({ cls := "OutwardDoors$Mover", name := "target", desc := "(LOutwardDoors$Plan;LOutwardDoors$World;IJ)I" } : Jvm.MethodName), prog_3_method_4_code, 7, (Option.some Jvm.ClassFile.FieldType.int)) from rfl).symm.trans hq
  exact ⟨wat_in (p := 1005) (by decide +kernel), by decide, by decide, rfl⟩
set_option maxRecDepth 100000 in
theorem ma97 : MthAt 97 := by
  intro q hq
  cases (show gMt[97]? = some (({ cls := "OutwardDoors$Plan", name := "doorsOut", desc := "(II)I" } : Jvm.MethodName), prog_5_method_15_code, 3, (Option.some Jvm.ClassFile.FieldType.int)) from rfl).symm.trans hq
  exact ⟨wat_in (p := 1009) (by decide +kernel), by decide, by decide, rfl⟩
set_option maxRecDepth 100000 in
theorem ma98 : MthAt 98 := by
  intro q hq
  cases (show gMt[98]? = some (({ cls := "OutwardDoors", name := "firstOf", desc := "(I)I" } : Jvm.MethodName), prog_1_method_46_code, 1, (Option.some Jvm.ClassFile.FieldType.int)) from rfl).symm.trans hq
  exact ⟨wat_in (p := 1012) (by decide +kernel), by decide, by decide, rfl⟩
set_option maxRecDepth 100000 in
theorem ma99 : MthAt 99 := by
  intro q hq
  cases (show gMt[99]? = some (({ cls := "java/lang/Integer", name := "bitCount", desc := "(I)I" } : Jvm.MethodName), prog_15_method_49_code, 1, (Option.some Jvm.ClassFile.FieldType.int)) from rfl).symm.trans hq
  exact ⟨wat_in (p := 1015) (by decide +kernel), by decide, by decide, rfl⟩
set_option maxRecDepth 100000 in
theorem ma100 : MthAt 100 := by
  intro q hq
  cases (show gMt[100]? = some (({ cls := "OutwardDoors$Mover", name := "findDoor", desc := "(LOutwardDoors$Plan;LOutwardDoors$World;I)V" } : Jvm.MethodName), prog_3_method_5_code, 5, (Option.none : Option Jvm.ClassFile.FieldType)) from rfl).symm.trans hq
  exact ⟨wat_in (p := 1022) (by decide +kernel), by decide, by decide, rfl⟩
set_option maxRecDepth 100000 in
theorem ma101 : MthAt 101 := by
  intro q hq
  cases (show gMt[101]? = some (({ cls := "OutwardDoors$Mover", name := "goOut", desc := "(LOutwardDoors$Plan;LOutwardDoors$World;)V" } : Jvm.MethodName), prog_3_method_6_code, 4, (Option.none : Option Jvm.ClassFile.FieldType)) from rfl).symm.trans hq
  exact ⟨wat_in (p := 1027) (by decide +kernel), by decide, by decide, rfl⟩
set_option maxRecDepth 100000 in
theorem ma102 : MthAt 102 := by
  intro q hq
  cases (show gMt[102]? = some (({ cls := "OutwardDoors$World", name := "goOut", desc := "(II)V" } : Jvm.MethodName), prog_12_method_4_code, 3, (Option.none : Option Jvm.ClassFile.FieldType)) from rfl).symm.trans hq
  exact ⟨wat_in (p := 1031) (by decide +kernel), by decide, by decide, rfl⟩
set_option maxRecDepth 100000 in
theorem ma103 : MthAt 103 := by
  intro q hq
  cases (show gMt[103]? = some (({ cls := "OutwardDoors$Mover", name := "comeIn", desc := "(LOutwardDoors$Plan;LOutwardDoors$World;)V" } : Jvm.MethodName), prog_3_method_7_code, 5, (Option.none : Option Jvm.ClassFile.FieldType)) from rfl).symm.trans hq
  exact ⟨wat_in (p := 1035) (by decide +kernel), by decide, by decide, rfl⟩
set_option maxRecDepth 100000 in
theorem ma104 : MthAt 104 := by
  intro q hq
  cases (show gMt[104]? = some (({ cls := "OutwardDoors$Mover", name := "takeOpener", desc := "(II)I" } : Jvm.MethodName), prog_3_method_8_code, 4, (Option.some Jvm.ClassFile.FieldType.int)) from rfl).symm.trans hq
  exact ⟨wat_in (p := 1039) (by decide +kernel), by decide, by decide, rfl⟩
set_option maxRecDepth 100000 in
theorem ma105 : MthAt 105 := by
  intro q hq
  cases (show gMt[105]? = some (({ cls := "OutwardDoors$World", name := "comeIn", desc := "(III)V" } : Jvm.MethodName), prog_12_method_5_code, 4, (Option.none : Option Jvm.ClassFile.FieldType)) from rfl).symm.trans hq
  exact ⟨wat_in (p := 1043) (by decide +kernel), by decide, by decide, rfl⟩
set_option maxRecDepth 100000 in
theorem ma106 : MthAt 106 := by
  intro q hq
  cases (show gMt[106]? = some (({ cls := "OutwardDoors", name := "aim", desc := "(II)I" } : Jvm.MethodName), prog_1_method_11_code, 4, (Option.some Jvm.ClassFile.FieldType.int)) from rfl).symm.trans hq
  exact ⟨wat_in (p := 1048) (by decide +kernel), by decide, by decide, rfl⟩
set_option maxRecDepth 100000 in
theorem ma107 : MthAt 107 := by
  intro q hq
  cases (show gMt[107]? = some (({ cls := "OutwardDoors", name := "send", desc := "(III)Z" } : Jvm.MethodName), prog_1_method_12_code, 6, (Option.some Jvm.ClassFile.FieldType.boolean)) from rfl).symm.trans hq
  exact ⟨wat_in (p := 1052) (by decide +kernel), by decide, by decide, rfl⟩
set_option maxRecDepth 100000 in
theorem ma108 : MthAt 108 := by
  intro q hq
  cases (show gMt[108]? = some (({ cls := "OutwardDoors", name := "undo", desc := "()I" } : Jvm.MethodName), prog_1_method_13_code, 1, (Option.some Jvm.ClassFile.FieldType.int)) from rfl).symm.trans hq
  exact ⟨wat_in (p := 1058) (by decide +kernel), by decide, by decide, rfl⟩
set_option maxRecDepth 100000 in
theorem ma109 : MthAt 109 := by
  intro q hq
  cases (show gMt[109]? = some (({ cls := "OutwardDoors", name := "ahead", desc := "(II)I" } : Jvm.MethodName), prog_1_method_14_code, 5, (Option.some Jvm.ClassFile.FieldType.int)) from rfl).symm.trans hq
  exact ⟨wat_in (p := 1062) (by decide +kernel), by decide, by decide, rfl⟩
set_option maxRecDepth 100000 in
theorem ma110 : MthAt 110 := by
  intro q hq
  cases (show gMt[110]? = some (({ cls := "OutwardDoors", name := "comes", desc := "(I)I" } : Jvm.MethodName), prog_1_method_15_code, 4, (Option.some Jvm.ClassFile.FieldType.int)) from rfl).symm.trans hq
  exact ⟨wat_in (p := 1066) (by decide +kernel), by decide, by decide, rfl⟩
set_option maxRecDepth 100000 in
theorem ma111 : MthAt 111 := by
  intro q hq
  cases (show gMt[111]? = some (({ cls := "OutwardDoors", name := "fewest", desc := "(I)I" } : Jvm.MethodName), prog_1_method_16_code, 2, (Option.some Jvm.ClassFile.FieldType.int)) from rfl).symm.trans hq
  exact ⟨wat_in (p := 1070) (by decide +kernel), by decide, by decide, rfl⟩
set_option maxRecDepth 100000 in
theorem ma112 : MthAt 112 := by
  intro q hq
  cases (show gMt[112]? = some (({ cls := "OutwardDoors", name := "isSet", desc := "(I)Z" } : Jvm.MethodName), prog_1_method_35_code, 2, (Option.some Jvm.ClassFile.FieldType.boolean)) from rfl).symm.trans hq
  exact ⟨wat_in (p := 1074) (by decide +kernel), by decide, by decide, rfl⟩
set_option maxRecDepth 100000 in
theorem ma113 : MthAt 113 := by
  intro q hq
  cases (show gMt[113]? = some (({ cls := "OutwardDoors", name := "searchFor", desc := "(II)V" } : Jvm.MethodName), prog_1_method_39_code, 7, (Option.none : Option Jvm.ClassFile.FieldType)) from rfl).symm.trans hq
  exact ⟨wat_in (p := 1078) (by decide +kernel), by decide, by decide, rfl⟩
set_option maxRecDepth 100000 in
theorem ma114 : MthAt 114 := by
  intro q hq
  cases (show gMt[114]? = some (({ cls := "OutwardDoors$Search", name := "begin", desc := "(LOutwardDoors$Plan;III)V" } : Jvm.MethodName), prog_10_method_2_code, 6, (Option.none : Option Jvm.ClassFile.FieldType)) from rfl).symm.trans hq
  exact ⟨wat_in (p := 1082) (by decide +kernel), by decide, by decide, rfl⟩
set_option maxRecDepth 100000 in
theorem ma115 : MthAt 115 := by
  intro q hq
  cases (show gMt[115]? = some (({ cls := "OutwardDoors$Passings", name := "prepare", desc := "(LOutwardDoors$Plan;III)V" } : Jvm.MethodName), prog_4_method_2_code, 5, (Option.none : Option Jvm.ClassFile.FieldType)) from rfl).symm.trans hq
  exact ⟨wat_in (p := 1088) (by decide +kernel), by decide, by decide, rfl⟩
set_option maxRecDepth 100000 in
theorem ma116 : MthAt 116 := by
  intro q hq
  cases (show gMt[116]? = some (({ cls := "OutwardDoors$Passings", name := "states", desc := "()I" } : Jvm.MethodName), prog_4_method_4_code, 1, (Option.some Jvm.ClassFile.FieldType.int)) from rfl).symm.trans hq
  exact ⟨wat_in (p := 1094) (by decide +kernel), by decide, by decide, rfl⟩
set_option maxRecDepth 100000 in
theorem ma117 : MthAt 117 := by
  intro q hq
  cases (show gMt[117]? = some (({ cls := "OutwardDoors$World", name := "packed", desc := "(I)I" } : Jvm.MethodName), prog_12_method_8_code, 4, (Option.some Jvm.ClassFile.FieldType.int)) from rfl).symm.trans hq
  exact ⟨wat_in (p := 1098) (by decide +kernel), by decide, by decide, rfl⟩
set_option maxRecDepth 100000 in
theorem ma118 : MthAt 118 := by
  intro q hq
  cases (show gMt[118]? = some (({ cls := "OutwardDoors$Search", name := "plant", desc := "(I)V" } : Jvm.MethodName), prog_10_method_3_code, 2, (Option.none : Option Jvm.ClassFile.FieldType)) from rfl).symm.trans hq
  exact ⟨wat_in (p := 1102) (by decide +kernel), by decide, by decide, rfl⟩
set_option maxRecDepth 100000 in
theorem ma119 : MthAt 119 := by
  intro q hq
  cases (show gMt[119]? = some (({ cls := "OutwardDoors$Search", name := "keep", desc := "(II)V" } : Jvm.MethodName), prog_10_method_4_code, 3, (Option.none : Option Jvm.ClassFile.FieldType)) from rfl).symm.trans hq
  exact ⟨wat_in (p := 1107) (by decide +kernel), by decide, by decide, rfl⟩
set_option maxRecDepth 100000 in
theorem ma120 : MthAt 120 := by
  intro q hq
  cases (show gMt[120]? = some (({ cls := "OutwardDoors$Search", name := "run", desc := "(II)V" } : Jvm.MethodName), prog_10_method_6_code, 4, (Option.none : Option Jvm.ClassFile.FieldType)) from rfl).symm.trans hq
  exact ⟨wat_in (p := 1111) (by decide +kernel), by decide, by decide, rfl⟩
set_option maxRecDepth 100000 in
theorem ma121 : MthAt 121 := by
  intro q hq
  cases (show gMt[121]? = some (({ cls := "OutwardDoors$Passings", name := "spread", desc := "(I)V" } : Jvm.MethodName), prog_4_method_11_code, 5, (Option.none : Option Jvm.ClassFile.FieldType)) from rfl).symm.trans hq
  exact ⟨wat_in (p := 1117) (by decide +kernel), by decide, by decide, rfl⟩
set_option maxRecDepth 100000 in
theorem ma122 : MthAt 122 := by
  intro q hq
  cases (show gMt[122]? = some (({ cls := "OutwardDoors$Passings", name := "roomOf", desc := "(II)I" } : Jvm.MethodName), prog_4_method_5_code, 2, (Option.some Jvm.ClassFile.FieldType.int)) from rfl).symm.trans hq
  exact ⟨wat_in (p := 1120) (by decide +kernel), by decide, by decide, rfl⟩
set_option maxRecDepth 100000 in
theorem ma123 : MthAt 123 := by
  intro q hq
  cases (show gMt[123]? = some (({ cls := "OutwardDoors$Passings", name := "passOut", desc := "(III)V" } : Jvm.MethodName), prog_4_method_12_code, 6, (Option.none : Option Jvm.ClassFile.FieldType)) from rfl).symm.trans hq
  exact ⟨wat_in (p := 1126) (by decide +kernel), by decide, by decide, rfl⟩
set_option maxRecDepth 100000 in
theorem ma124 : MthAt 124 := by
  intro q hq
  cases (show gMt[124]? = some (({ cls := "OutwardDoors$Passings", name := "moved", desc := "(III)I" } : Jvm.MethodName), prog_4_method_6_code, 3, (Option.some Jvm.ClassFile.FieldType.int)) from rfl).symm.trans hq
  exact ⟨wat_in (p := 1129) (by decide +kernel), by decide, by decide, rfl⟩
set_option maxRecDepth 100000 in
theorem ma125 : MthAt 125 := by
  intro q hq
  cases (show gMt[125]? = some (({ cls := "OutwardDoors$Passings", name := "labelOf", desc := "(III)I" } : Jvm.MethodName), prog_4_method_7_code, 3, (Option.some Jvm.ClassFile.FieldType.int)) from rfl).symm.trans hq
  exact ⟨wat_in (p := 1132) (by decide +kernel), by decide, by decide, rfl⟩
set_option maxRecDepth 100000 in
theorem ma126 : MthAt 126 := by
  intro q hq
  cases (show gMt[126]? = some (({ cls := "OutwardDoors$Pricer", name := "reach", desc := "(III)V" } : Jvm.MethodName), prog_6_method_5_code, 5, (Option.none : Option Jvm.ClassFile.FieldType)) from rfl).symm.trans hq
  exact ⟨wat_in (p := 1138) (by decide +kernel), by decide, by decide, rfl⟩
set_option maxRecDepth 100000 in
theorem ma127 : MthAt 127 := by
  intro q hq
  cases (show gMt[127]? = some (({ cls := "OutwardDoors$Passings", name := "outOf", desc := "(I)I" } : Jvm.MethodName), prog_4_method_8_code, 1, (Option.some Jvm.ClassFile.FieldType.int)) from rfl).symm.trans hq
  exact ⟨wat_in (p := 1142) (by decide +kernel), by decide, by decide, rfl⟩
set_option maxRecDepth 100000 in
theorem ma128 : MthAt 128 := by
  intro q hq
  cases (show gMt[128]? = some (({ cls := "OutwardDoors$Pricer", name := "await", desc := "(II)V" } : Jvm.MethodName), prog_6_method_6_code, 4, (Option.none : Option Jvm.ClassFile.FieldType)) from rfl).symm.trans hq
  exact ⟨wat_in (p := 1146) (by decide +kernel), by decide, by decide, rfl⟩
set_option maxRecDepth 100000 in
theorem ma129 : MthAt 129 := by
  intro q hq
  cases (show gMt[129]? = some (({ cls := "OutwardDoors$Pricer", name := "leaveRow", desc := "(I)V" } : Jvm.MethodName), prog_6_method_7_code, 2, (Option.none : Option Jvm.ClassFile.FieldType)) from rfl).symm.trans hq
  exact ⟨wat_in (p := 1151) (by decide +kernel), by decide, by decide, rfl⟩
set_option maxRecDepth 100000 in
theorem ma130 : MthAt 130 := by
  intro q hq
  cases (show gMt[130]? = some (({ cls := "OutwardDoors$Search", name := "reach", desc := "(III)V" } : Jvm.MethodName), prog_10_method_5_code, 4, (Option.none : Option Jvm.ClassFile.FieldType)) from rfl).symm.trans hq
  exact ⟨wat_in (p := 1154) (by decide +kernel), by decide, by decide, rfl⟩
set_option maxRecDepth 100000 in
theorem ma131 : MthAt 131 := by
  intro q hq
  cases (show gMt[131]? = some (({ cls := "OutwardDoors$Passings", name := "comeInAlone", desc := "(I)V" } : Jvm.MethodName), prog_4_method_13_code, 3, (Option.none : Option Jvm.ClassFile.FieldType)) from rfl).symm.trans hq
  exact ⟨wat_in (p := 1159) (by decide +kernel), by decide, by decide, rfl⟩
set_option maxRecDepth 100000 in
theorem ma132 : MthAt 132 := by
  intro q hq
  cases (show gMt[132]? = some (({ cls := "OutwardDoors$Search", name := "rowLength", desc := "()I" } : Jvm.MethodName), prog_10_method_9_code, 4, (Option.some Jvm.ClassFile.FieldType.int)) from rfl).symm.trans hq
  exact ⟨wat_in (p := 1163) (by decide +kernel), by decide, by decide, rfl⟩
set_option maxRecDepth 100000 in
theorem ma133 : MthAt 133 := by
  intro q hq
  cases (show gMt[133]? = some (({ cls := "OutwardDoors", name := "passing", desc := "(III)I" } : Jvm.MethodName), prog_1_method_17_code, 5, (Option.some Jvm.ClassFile.FieldType.int)) from rfl).symm.trans hq
  exact ⟨wat_in (p := 1167) (by decide +kernel), by decide, by decide, rfl⟩
set_option maxRecDepth 100000 in
theorem ma134 : MthAt 134 := by
  intro q hq
  cases (show gMt[134]? = some (({ cls := "OutwardDoors$Search", name := "labelAt", desc := "(I)I" } : Jvm.MethodName), prog_10_method_11_code, 2, (Option.some Jvm.ClassFile.FieldType.int)) from rfl).symm.trans hq
  exact ⟨wat_in (p := 1171) (by decide +kernel), by decide, by decide, rfl⟩
set_option maxRecDepth 100000 in
theorem ma135 : MthAt 135 := by
  intro q hq
  cases (show gMt[135]? = some (({ cls := "OutwardDoors$Search", name := "before", desc := "(I)I" } : Jvm.MethodName), prog_10_method_10_code, 4, (Option.some Jvm.ClassFile.FieldType.int)) from rfl).symm.trans hq
  exact ⟨wat_in (p := 1176) (by decide +kernel), by decide, by decide, rfl⟩
set_option maxRecDepth 100000 in
theorem ma136 : MthAt 136 := by
  intro q hq
  cases (show gMt[136]? = some (({ cls := "OutwardDoors$Passings", name := "doorOf", desc := "(I)I" } : Jvm.MethodName), prog_4_method_9_code, 1, (Option.some Jvm.ClassFile.FieldType.int)) from rfl).symm.trans hq
  exact ⟨wat_in (p := 1180) (by decide +kernel), by decide, by decide, rfl⟩
set_option maxRecDepth 100000 in
theorem ma137 : MthAt 137 := by
  intro q hq
  cases (show gMt[137]? = some (({ cls := "OutwardDoors$Passings", name := "inOf", desc := "(I)I" } : Jvm.MethodName), prog_4_method_10_code, 1, (Option.some Jvm.ClassFile.FieldType.int)) from rfl).symm.trans hq
  exact ⟨wat_in (p := 1183) (by decide +kernel), by decide, by decide, rfl⟩
set_option maxRecDepth 100000 in
theorem ma138 : MthAt 138 := by
  intro q hq
  cases (show gMt[138]? = some (({ cls := "OutwardDoors", name := "caught", desc := "(I)I" } : Jvm.MethodName), prog_1_method_18_code, 7, (Option.some Jvm.ClassFile.FieldType.int)) from rfl).symm.trans hq
  exact ⟨wat_in (p := 1187) (by decide +kernel), by decide, by decide, rfl⟩
set_option maxRecDepth 100000 in
theorem ma139 : MthAt 139 := by
  intro q hq
  cases (show gMt[139]? = some (({ cls := "OutwardDoors$Search", name := "exhaust", desc := "()V" } : Jvm.MethodName), prog_10_method_7_code, 2, (Option.none : Option Jvm.ClassFile.FieldType)) from rfl).symm.trans hq
  exact ⟨wat_in (p := 1191) (by decide +kernel), by decide, by decide, rfl⟩
set_option maxRecDepth 100000 in
theorem ma140 : MthAt 140 := by
  intro q hq
  cases (show gMt[140]? = some (({ cls := "OutwardDoors$Search", name := "everReached", desc := "(IIZ)Z" } : Jvm.MethodName), prog_10_method_8_code, 5, (Option.some Jvm.ClassFile.FieldType.boolean)) from rfl).symm.trans hq
  exact ⟨wat_in (p := 1195) (by decide +kernel), by decide, by decide, rfl⟩
set_option maxRecDepth 100000 in
theorem ma141 : MthAt 141 := by
  intro q hq
  cases (show gMt[141]? = some (({ cls := "OutwardDoors", name := "page", desc := "(II)I" } : Jvm.MethodName), prog_1_method_19_code, 6, (Option.some Jvm.ClassFile.FieldType.int)) from rfl).symm.trans hq
  exact ⟨wat_in (p := 1201) (by decide +kernel), by decide, by decide, rfl⟩
set_option maxRecDepth 100000 in
theorem ma142 : MthAt 142 := by
  intro q hq
  cases (show gMt[142]? = some (({ cls := "OutwardDoors$Search", name := "origin", desc := "()I" } : Jvm.MethodName), prog_10_method_12_code, 1, (Option.some Jvm.ClassFile.FieldType.int)) from rfl).symm.trans hq
  exact ⟨wat_in (p := 1206) (by decide +kernel), by decide, by decide, rfl⟩
set_option maxRecDepth 100000 in
theorem ma143 : MthAt 143 := by
  intro q hq
  cases (show gMt[143]? = some (({ cls := "OutwardDoors", name := "price", desc := "(I)I" } : Jvm.MethodName), prog_1_method_20_code, 2, (Option.some Jvm.ClassFile.FieldType.int)) from rfl).symm.trans hq
  exact ⟨wat_in (p := 1211) (by decide +kernel), by decide, by decide, rfl⟩
set_option maxRecDepth 100000 in
theorem ma144 : MthAt 144 := by
  intro q hq
  cases (show gMt[144]? = some (({ cls := "OutwardDoors$Pricer", name := "begin", desc := "(LOutwardDoors$Plan;I)V" } : Jvm.MethodName), prog_6_method_2_code, 3, (Option.none : Option Jvm.ClassFile.FieldType)) from rfl).symm.trans hq
  exact ⟨wat_in (p := 1215) (by decide +kernel), by decide, by decide, rfl⟩
set_option maxRecDepth 100000 in
theorem ma145 : MthAt 145 := by
  intro q hq
  cases (show gMt[145]? = some (({ cls := "OutwardDoors$Pricer", name := "least", desc := "(LOutwardDoors$World;I)I" } : Jvm.MethodName), prog_6_method_3_code, 4, (Option.some Jvm.ClassFile.FieldType.int)) from rfl).symm.trans hq
  exact ⟨wat_in (p := 1225) (by decide +kernel), by decide, by decide, rfl⟩
set_option maxRecDepth 100000 in
theorem ma146 : MthAt 146 := by
  intro q hq
  cases (show gMt[146]? = some (({ cls := "OutwardDoors$Pricer", name := "settle", desc := "(II)Z" } : Jvm.MethodName), prog_6_method_4_code, 6, (Option.some Jvm.ClassFile.FieldType.boolean)) from rfl).symm.trans hq
  exact ⟨wat_in (p := 1231) (by decide +kernel), by decide, by decide, rfl⟩
set_option maxRecDepth 100000 in
theorem ma147 : MthAt 147 := by
  intro q hq
  cases (show gMt[147]? = some (({ cls := "OutwardDoors", name := "turned", desc := "(II)I" } : Jvm.MethodName), prog_1_method_21_code, 3, (Option.some Jvm.ClassFile.FieldType.int)) from rfl).symm.trans hq
  exact ⟨wat_in (p := 1240) (by decide +kernel), by decide, by decide, rfl⟩
set_option maxRecDepth 100000 in
theorem ma148 : MthAt 148 := by
  intro q hq
  cases (show gMt[148]? = some (({ cls := "OutwardDoors", name := "swap", desc := "(I)I" } : Jvm.MethodName), prog_1_method_22_code, 7, (Option.some Jvm.ClassFile.FieldType.int)) from rfl).symm.trans hq
  exact ⟨wat_in (p := 1244) (by decide +kernel), by decide, by decide, rfl⟩
set_option maxRecDepth 100000 in
theorem ma149 : MthAt 149 := by
  intro q hq
  cases (show gMt[149]? = some (({ cls := "OutwardDoors", name := "isNearerAt", desc := "(II)Z" } : Jvm.MethodName), prog_1_method_40_code, 6, (Option.some Jvm.ClassFile.FieldType.boolean)) from rfl).symm.trans hq
  exact ⟨wat_in (p := 1248) (by decide +kernel), by decide, by decide, rfl⟩
set_option maxRecDepth 100000 in
theorem ma150 : MthAt 150 := by
  intro q hq
  cases (show gMt[150]? = some (({ cls := "OutwardDoors", name := "note", desc := "(III)I" } : Jvm.MethodName), prog_1_method_23_code, 4, (Option.some Jvm.ClassFile.FieldType.int)) from rfl).symm.trans hq
  exact ⟨wat_in (p := 1252) (by decide +kernel), by decide, by decide, rfl⟩
set_option maxRecDepth 100000 in
theorem ma151 : MthAt 151 := by
  intro q hq
  cases (show gMt[151]? = some (({ cls := "OutwardDoors$Scene", name := "addNote", desc := "(III)V" } : Jvm.MethodName), prog_9_method_3_code, 4, (Option.none : Option Jvm.ClassFile.FieldType)) from rfl).symm.trans hq
  exact ⟨wat_in (p := 1256) (by decide +kernel), by decide, by decide, rfl⟩
set_option maxRecDepth 100000 in
theorem ma152 : MthAt 152 := by
  intro q hq
  cases (show gMt[152]? = some (({ cls := "OutwardDoors", name := "ruled", desc := "(I)I" } : Jvm.MethodName), prog_1_method_24_code, 5, (Option.some Jvm.ClassFile.FieldType.int)) from rfl).symm.trans hq
  exact ⟨wat_in (p := 1260) (by decide +kernel), by decide, by decide, rfl⟩
set_option maxRecDepth 100000 in
theorem ma153 : MthAt 153 := by
  intro q hq
  cases (show gMt[153]? = some (({ cls := "OutwardDoors", name := "fitsNotes", desc := "(I)Z" } : Jvm.MethodName), prog_1_method_41_code, 5, (Option.some Jvm.ClassFile.FieldType.boolean)) from rfl).symm.trans hq
  exact ⟨wat_in (p := 1264) (by decide +kernel), by decide, by decide, rfl⟩
set_option maxRecDepth 100000 in
theorem ma154 : MthAt 154 := by
  intro q hq
  cases (show gMt[154]? = some (({ cls := "OutwardDoors$Scene", name := "lastNoted", desc := "()I" } : Jvm.MethodName), prog_9_method_4_code, 3, (Option.some Jvm.ClassFile.FieldType.int)) from rfl).symm.trans hq
  exact ⟨wat_in (p := 1268) (by decide +kernel), by decide, by decide, rfl⟩
set_option maxRecDepth 100000 in
theorem ma155 : MthAt 155 := by
  intro q hq
  cases (show gMt[155]? = some (({ cls := "OutwardDoors$Scene", name := "notesHold", desc := "(ILOutwardDoors$World;)Z" } : Jvm.MethodName), prog_9_method_5_code, 4, (Option.some Jvm.ClassFile.FieldType.boolean)) from rfl).symm.trans hq
  exact ⟨wat_in (p := 1275) (by decide +kernel), by decide, by decide, rfl⟩
set_option maxRecDepth 100000 in
theorem ma156 : MthAt 156 := by
  intro q hq
  cases (show gMt[156]? = some (({ cls := "OutwardDoors", name := "look", desc := "(II)I" } : Jvm.MethodName), prog_1_method_25_code, 7, (Option.some Jvm.ClassFile.FieldType.int)) from rfl).symm.trans hq
  exact ⟨wat_in (p := 1279) (by decide +kernel), by decide, by decide, rfl⟩
set_option maxRecDepth 100000 in
theorem ma157 : MthAt 157 := by
  intro q hq
  cases (show gMt[157]? = some (({ cls := "OutwardDoors", name := "tallyFitting", desc := "(I)I" } : Jvm.MethodName), prog_1_method_42_code, 4, (Option.some Jvm.ClassFile.FieldType.int)) from rfl).symm.trans hq
  exact ⟨wat_in (p := 1283) (by decide +kernel), by decide, by decide, rfl⟩
set_option maxRecDepth 100000 in
theorem ma158 : MthAt 158 := by
  intro q hq
  cases (show gMt[158]? = some (({ cls := "OutwardDoors", name := "tallyOne", desc := "(LOutwardDoors$Rule;I)V" } : Jvm.MethodName), prog_1_method_43_code, 4, (Option.none : Option Jvm.ClassFile.FieldType)) from rfl).symm.trans hq
  exact ⟨wat_in (p := 1288) (by decide +kernel), by decide, by decide, rfl⟩
set_option maxRecDepth 100000 in
theorem ma159 : MthAt 159 := by
  intro q hq
  cases (show gMt[159]? = some (({ cls := "OutwardDoors", name := "mostAlike", desc := "(I)I" } : Jvm.MethodName), prog_1_method_44_code, 4, (Option.some Jvm.ClassFile.FieldType.int)) from rfl).symm.trans hq
  exact ⟨wat_in (p := 1292) (by decide +kernel), by decide, by decide, rfl⟩
set_option maxRecDepth 100000 in
theorem ma160 : MthAt 160 := by
  intro q hq
  cases (show gMt[160]? = some (({ cls := "OutwardDoors", name := "seed", desc := "(I)I" } : Jvm.MethodName), prog_1_method_26_code, 3, (Option.some Jvm.ClassFile.FieldType.int)) from rfl).symm.trans hq
  exact ⟨wat_in (p := 1297) (by decide +kernel), by decide, by decide, rfl⟩
set_option maxRecDepth 100000 in
theorem ma161 : MthAt 161 := by
  intro q hq
  cases (show gMt[161]? = some (({ cls := "OutwardDoors", name := "days", desc := "(III)I" } : Jvm.MethodName), prog_1_method_27_code, 11, (Option.some Jvm.ClassFile.FieldType.int)) from rfl).symm.trans hq
  exact ⟨wat_in (p := 1301) (by decide +kernel), by decide, by decide, rfl⟩
set_option maxRecDepth 100000 in
theorem ma162 : MthAt 162 := by
  intro q hq
  cases (show gMt[162]? = some (({ cls := "OutwardDoors", name := "drawn", desc := "(I)I" } : Jvm.MethodName), prog_1_method_45_code, 1, (Option.some Jvm.ClassFile.FieldType.int)) from rfl).symm.trans hq
  exact ⟨wat_in (p := 1304) (by decide +kernel), by decide, by decide, rfl⟩
set_option maxRecDepth 100000 in
theorem ma163 : MthAt 163 := by
  intro q hq
  cases (show gMt[163]? = some (({ cls := "OutwardDoors", name := "count", desc := "(I)I" } : Jvm.MethodName), prog_1_method_28_code, 2, (Option.some Jvm.ClassFile.FieldType.int)) from rfl).symm.trans hq
  exact ⟨wat_in (p := 1311) (by decide +kernel), by decide, by decide, rfl⟩
set_option maxRecDepth 100000 in
theorem ma164 : MthAt 164 := by
  intro q hq
  cases (show gMt[164]? = some (({ cls := "OutwardDoors$World", name := "total", desc := "([I)I" } : Jvm.MethodName), prog_12_method_7_code, 4, (Option.some Jvm.ClassFile.FieldType.int)) from rfl).symm.trans hq
  exact ⟨wat_in (p := 1315) (by decide +kernel), by decide, by decide, rfl⟩
set_option maxRecDepth 100000 in
theorem ma165 : MthAt 165 := by
  intro q hq
  cases (show gMt[165]? = some (({ cls := "OutwardDoors", name := "image", desc := "(I)I" } : Jvm.MethodName), prog_1_method_29_code, 2, (Option.some Jvm.ClassFile.FieldType.int)) from rfl).symm.trans hq
  exact ⟨wat_in (p := 1319) (by decide +kernel), by decide, by decide, rfl⟩
set_option maxRecDepth 100000 in
theorem ma166 : MthAt 166 := by
  intro q hq
  cases (show gMt[166]? = some (({ cls := "OutwardDoors$Scene", name := "copyFrom", desc := "(LOutwardDoors$Scene;)V" } : Jvm.MethodName), prog_9_method_2_code, 2, (Option.none : Option Jvm.ClassFile.FieldType)) from rfl).symm.trans hq
  exact ⟨wat_in (p := 1323) (by decide +kernel), by decide, by decide, rfl⟩
set_option maxRecDepth 100000 in
theorem ma167 : MthAt 167 := by
  intro q hq
  cases (show gMt[167]? = some (({ cls := "OutwardDoors", name := "back", desc := "(I)I" } : Jvm.MethodName), prog_1_method_30_code, 2, (Option.some Jvm.ClassFile.FieldType.int)) from rfl).symm.trans hq
  exact ⟨wat_in (p := 1329) (by decide +kernel), by decide, by decide, rfl⟩
set_option maxRecDepth 100000 in
theorem ma168 : MthAt 168 := by
  intro q hq
  cases (show gMt[168]? = some (({ cls := "OutwardDoorsModel", name := "<init>", desc := "()V" } : Jvm.MethodName), prog_14_method_1_code, 1, (Option.none : Option Jvm.ClassFile.FieldType)) from rfl).symm.trans hq
  exact ⟨wat_in (p := 1334) (by decide +kernel), by decide, by decide, rfl⟩
set_option maxRecDepth 100000 in
theorem ma169 : MthAt 169 := by
  intro q hq
  cases (show gMt[169]? = some (({ cls := "OutwardDoorsModel", name := "feed", desc := "(IIIII)I" } : Jvm.MethodName), prog_14_method_5_code, 6, (Option.some Jvm.ClassFile.FieldType.int)) from rfl).symm.trans hq
  exact ⟨wat_in (p := 1474) (by decide +kernel), by decide, by decide, rfl⟩
set_option maxRecDepth 100000 in
theorem ma170 : MthAt 170 := by
  intro q hq
  cases (show gMt[170]? = some (({ cls := "OutwardDoorsModel", name := "four", desc := "(I)V" } : Jvm.MethodName), prog_14_method_4_code, 3, (Option.none : Option Jvm.ClassFile.FieldType)) from rfl).symm.trans hq
  exact ⟨wat_in (p := 1478) (by decide +kernel), by decide, by decide, rfl⟩
set_option maxRecDepth 100000 in
theorem ma171 : MthAt 171 := by
  intro q hq
  cases (show gMt[171]? = some (({ cls := "OutwardDoorsModel", name := "end", desc := "(I)I" } : Jvm.MethodName), prog_14_method_6_code, 2, (Option.some Jvm.ClassFile.FieldType.int)) from rfl).symm.trans hq
  exact ⟨wat_in (p := 1482) (by decide +kernel), by decide, by decide, rfl⟩
set_option maxRecDepth 100000 in
theorem ma172 : MthAt 172 := by
  intro q hq
  cases (show gMt[172]? = some (({ cls := "OutwardDoorsModel", name := "rule", desc := "()I" } : Jvm.MethodName), prog_14_method_40_code, 1, (Option.some Jvm.ClassFile.FieldType.int)) from rfl).symm.trans hq
  exact ⟨wat_in (p := 1486) (by decide +kernel), by decide, by decide, rfl⟩
set_option maxRecDepth 100000 in
theorem ma173 : MthAt 173 := by
  intro q hq
  cases (show gMt[173]? = some (({ cls := "OutwardDoorsModel", name := "readsAll", desc := "()Z" } : Jvm.MethodName), prog_14_method_39_code, 2, (Option.some Jvm.ClassFile.FieldType.boolean)) from rfl).symm.trans hq
  exact ⟨wat_in (p := 1490) (by decide +kernel), by decide, by decide, rfl⟩
set_option maxRecDepth 100000 in
theorem ma174 : MthAt 174 := by
  intro q hq
  cases (show gMt[174]? = some (({ cls := "OutwardDoorsModel", name := "clauseHere", desc := "()Z" } : Jvm.MethodName), prog_14_method_38_code, 3, (Option.some Jvm.ClassFile.FieldType.boolean)) from rfl).symm.trans hq
  exact ⟨wat_in (p := 1494) (by decide +kernel), by decide, by decide, rfl⟩
set_option maxRecDepth 100000 in
theorem ma175 : MthAt 175 := by
  intro q hq
  cases (show gMt[175]? = some (({ cls := "OutwardDoorsModel", name := "see", desc := "()I" } : Jvm.MethodName), prog_14_method_8_code, 1, (Option.some Jvm.ClassFile.FieldType.int)) from rfl).symm.trans hq
  exact ⟨wat_in (p := 1498) (by decide +kernel), by decide, by decide, rfl⟩
set_option maxRecDepth 100000 in
theorem ma176 : MthAt 176 := by
  intro q hq
  cases (show gMt[176]? = some (({ cls := "OutwardDoorsModel", name := "isCastleWord", desc := "()Z" } : Jvm.MethodName), prog_14_method_37_code, 1, (Option.some Jvm.ClassFile.FieldType.boolean)) from rfl).symm.trans hq
  exact ⟨wat_in (p := 1502) (by decide +kernel), by decide, by decide, rfl⟩
set_option maxRecDepth 100000 in
theorem ma177 : MthAt 177 := by
  intro q hq
  cases (show gMt[177]? = some (({ cls := "OutwardDoorsModel", name := "isWord", desc := "(J)Z" } : Jvm.MethodName), prog_14_method_11_code, 6, (Option.some Jvm.ClassFile.FieldType.boolean)) from rfl).symm.trans hq
  exact ⟨wat_in (p := 1507) (by decide +kernel), by decide, by decide, rfl⟩
set_option maxRecDepth 100000 in
theorem ma178 : MthAt 178 := by
  intro q hq
  cases (show gMt[178]? = some (({ cls := "OutwardDoorsModel", name := "isLetter", desc := "(I)Z" } : Jvm.MethodName), prog_14_method_10_code, 2, (Option.some Jvm.ClassFile.FieldType.boolean)) from rfl).symm.trans hq
  exact ⟨wat_in (p := 1511) (by decide +kernel), by decide, by decide, rfl⟩
set_option maxRecDepth 100000 in
theorem ma179 : MthAt 179 := by
  intro q hq
  cases (show gMt[179]? = some (({ cls := "OutwardDoorsModel", name := "fails", desc := "(II)Z" } : Jvm.MethodName), prog_14_method_7_code, 3, (Option.some Jvm.ClassFile.FieldType.boolean)) from rfl).symm.trans hq
  exact ⟨wat_in (p := 1521) (by decide +kernel), by decide, by decide, rfl⟩
set_option maxRecDepth 100000 in
theorem ma180 : MthAt 180 := by
  intro q hq
  cases (show gMt[180]? = some (({ cls := "OutwardDoorsModel", name := "castleLineHere", desc := "(I)Z" } : Jvm.MethodName), prog_14_method_36_code, 2, (Option.some Jvm.ClassFile.FieldType.boolean)) from rfl).symm.trans hq
  exact ⟨wat_in (p := 1525) (by decide +kernel), by decide, by decide, rfl⟩
set_option maxRecDepth 100000 in
theorem ma181 : MthAt 181 := by
  intro q hq
  cases (show gMt[181]? = some (({ cls := "OutwardDoorsModel", name := "isCastleHere", desc := "(I)Z" } : Jvm.MethodName), prog_14_method_31_code, 2, (Option.some Jvm.ClassFile.FieldType.boolean)) from rfl).symm.trans hq
  exact ⟨wat_in (p := 1529) (by decide +kernel), by decide, by decide, rfl⟩
set_option maxRecDepth 100000 in
theorem ma182 : MthAt 182 := by
  intro q hq
  cases (show gMt[182]? = some (({ cls := "OutwardDoorsModel", name := "passWord", desc := "()V" } : Jvm.MethodName), prog_14_method_12_code, 1, (Option.none : Option Jvm.ClassFile.FieldType)) from rfl).symm.trans hq
  exact ⟨wat_in (p := 1533) (by decide +kernel), by decide, by decide, rfl⟩
set_option maxRecDepth 100000 in
theorem ma183 : MthAt 183 := by
  intro q hq
  cases (show gMt[183]? = some (({ cls := "OutwardDoorsModel", name := "cellHere", desc := "(III)Z" } : Jvm.MethodName), prog_14_method_30_code, 4, (Option.some Jvm.ClassFile.FieldType.boolean)) from rfl).symm.trans hq
  exact ⟨wat_in (p := 1537) (by decide +kernel), by decide, by decide, rfl⟩
set_option maxRecDepth 100000 in
theorem ma184 : MthAt 184 := by
  intro q hq
  cases (show gMt[184]? = some (({ cls := "OutwardDoorsModel", name := "numberHere", desc := "(II)Z" } : Jvm.MethodName), prog_14_method_14_code, 5, (Option.some Jvm.ClassFile.FieldType.boolean)) from rfl).symm.trans hq
  exact ⟨wat_in (p := 1541) (by decide +kernel), by decide, by decide, rfl⟩
set_option maxRecDepth 100000 in
theorem ma185 : MthAt 185 := by
  intro q hq
  cases (show gMt[185]? = some (({ cls := "OutwardDoorsModel", name := "isDigit", desc := "(I)Z" } : Jvm.MethodName), prog_14_method_9_code, 2, (Option.some Jvm.ClassFile.FieldType.boolean)) from rfl).symm.trans hq
  exact ⟨wat_in (p := 1545) (by decide +kernel), by decide, by decide, rfl⟩
set_option maxRecDepth 100000 in
theorem ma186 : MthAt 186 := by
  intro q hq
  cases (show gMt[186]? = some (({ cls := "OutwardDoorsModel", name := "in", desc := "(JJJ)Z" } : Jvm.MethodName), prog_14_method_2_code, 6, (Option.some Jvm.ClassFile.FieldType.boolean)) from rfl).symm.trans hq
  exact ⟨wat_in (p := 1548) (by decide +kernel), by decide, by decide, rfl⟩
set_option maxRecDepth 100000 in
theorem ma187 : MthAt 187 := by
  intro q hq
  cases (show gMt[187]? = some (({ cls := "OutwardDoorsModel", name := "isFarHere", desc := "()Z" } : Jvm.MethodName), prog_14_method_32_code, 1, (Option.some Jvm.ClassFile.FieldType.boolean)) from rfl).symm.trans hq
  exact ⟨wat_in (p := 1552) (by decide +kernel), by decide, by decide, rfl⟩
set_option maxRecDepth 100000 in
theorem ma188 : MthAt 188 := by
  intro q hq
  cases (show gMt[188]? = some (({ cls := "OutwardDoorsModel", name := "isDoorHere", desc := "(II)Z" } : Jvm.MethodName), prog_14_method_33_code, 9, (Option.some Jvm.ClassFile.FieldType.boolean)) from rfl).symm.trans hq
  exact ⟨wat_in (p := 1556) (by decide +kernel), by decide, by decide, rfl⟩
set_option maxRecDepth 100000 in
theorem ma189 : MthAt 189 := by
  intro q hq
  cases (show gMt[189]? = some (({ cls := "OutwardDoorsModel", name := "isNightHere", desc := "(I)Z" } : Jvm.MethodName), prog_14_method_34_code, 2, (Option.some Jvm.ClassFile.FieldType.boolean)) from rfl).symm.trans hq
  exact ⟨wat_in (p := 1560) (by decide +kernel), by decide, by decide, rfl⟩
set_option maxRecDepth 100000 in
theorem ma190 : MthAt 190 := by
  intro q hq
  cases (show gMt[190]? = some (({ cls := "OutwardDoorsModel", name := "isPersonHere", desc := "(I)Z" } : Jvm.MethodName), prog_14_method_35_code, 3, (Option.some Jvm.ClassFile.FieldType.boolean)) from rfl).symm.trans hq
  exact ⟨wat_in (p := 1564) (by decide +kernel), by decide, by decide, rfl⟩
set_option maxRecDepth 100000 in
theorem ma191 : MthAt 191 := by
  intro q hq
  cases (show gMt[191]? = some (({ cls := "OutwardDoorsModel", name := "isGoHere", desc := "()Z" } : Jvm.MethodName), prog_14_method_29_code, 2, (Option.some Jvm.ClassFile.FieldType.boolean)) from rfl).symm.trans hq
  exact ⟨wat_in (p := 1568) (by decide +kernel), by decide, by decide, rfl⟩
set_option maxRecDepth 100000 in
theorem ma192 : MthAt 192 := by
  intro q hq
  cases (show gMt[192]? = some (({ cls := "OutwardDoorsModel", name := "sum", desc := "()Z" } : Jvm.MethodName), prog_14_method_23_code, 2, (Option.some Jvm.ClassFile.FieldType.boolean)) from rfl).symm.trans hq
  exact ⟨wat_in (p := 1572) (by decide +kernel), by decide, by decide, rfl⟩
set_option maxRecDepth 100000 in
theorem ma193 : MthAt 193 := by
  intro q hq
  cases (show gMt[193]? = some (({ cls := "OutwardDoorsModel", name := "term", desc := "()Z" } : Jvm.MethodName), prog_14_method_22_code, 2, (Option.some Jvm.ClassFile.FieldType.boolean)) from rfl).symm.trans hq
  exact ⟨wat_in (p := 1576) (by decide +kernel), by decide, by decide, rfl⟩
set_option maxRecDepth 100000 in
theorem ma194 : MthAt 194 := by
  intro q hq
  cases (show gMt[194]? = some (({ cls := "OutwardDoorsModel", name := "value", desc := "()Z" } : Jvm.MethodName), prog_14_method_21_code, 3, (Option.some Jvm.ClassFile.FieldType.boolean)) from rfl).symm.trans hq
  exact ⟨wat_in (p := 1580) (by decide +kernel), by decide, by decide, rfl⟩
set_option maxRecDepth 100000 in
theorem ma195 : MthAt 195 := by
  intro q hq
  cases (show gMt[195]? = some (({ cls := "OutwardDoorsModel", name := "makes", desc := "(I)Z" } : Jvm.MethodName), prog_14_method_17_code, 2, (Option.some Jvm.ClassFile.FieldType.boolean)) from rfl).symm.trans hq
  exact ⟨wat_in (p := 1585) (by decide +kernel), by decide, by decide, rfl⟩
set_option maxRecDepth 100000 in
theorem ma196 : MthAt 196 := by
  intro q hq
  cases (show gMt[196]? = some (({ cls := "OutwardDoorsModel", name := "puts", desc := "(II)V" } : Jvm.MethodName), prog_14_method_16_code, 3, (Option.none : Option Jvm.ClassFile.FieldType)) from rfl).symm.trans hq
  exact ⟨wat_in (p := 1589) (by decide +kernel), by decide, by decide, rfl⟩
set_option maxRecDepth 100000 in
theorem ma197 : MthAt 197 := by
  intro q hq
  cases (show gMt[197]? = some (({ cls := "OutwardDoorsModel", name := "wordHere", desc := "()I" } : Jvm.MethodName), prog_14_method_15_code, 1, (Option.some Jvm.ClassFile.FieldType.int)) from rfl).symm.trans hq
  exact ⟨wat_in (p := 1593) (by decide +kernel), by decide, by decide, rfl⟩
set_option maxRecDepth 100000 in
theorem ma198 : MthAt 198 := by
  intro q hq
  cases (show gMt[198]? = some (({ cls := "OutwardDoorsModel", name := "takesWord", desc := "(J)Z" } : Jvm.MethodName), prog_14_method_13_code, 3, (Option.some Jvm.ClassFile.FieldType.boolean)) from rfl).symm.trans hq
  exact ⟨wat_in (p := 1607) (by decide +kernel), by decide, by decide, rfl⟩
set_option maxRecDepth 100000 in
theorem ma199 : MthAt 199 := by
  intro q hq
  cases (show gMt[199]? = some (({ cls := "OutwardDoorsModel", name := "tested", desc := "()Z" } : Jvm.MethodName), prog_14_method_28_code, 3, (Option.some Jvm.ClassFile.FieldType.boolean)) from rfl).symm.trans hq
  exact ⟨wat_in (p := 1611) (by decide +kernel), by decide, by decide, rfl⟩
set_option maxRecDepth 100000 in
theorem ma200 : MthAt 200 := by
  intro q hq
  cases (show gMt[200]? = some (({ cls := "OutwardDoorsModel", name := "fact", desc := "()Z" } : Jvm.MethodName), prog_14_method_25_code, 3, (Option.some Jvm.ClassFile.FieldType.boolean)) from rfl).symm.trans hq
  exact ⟨wat_in (p := 1615) (by decide +kernel), by decide, by decide, rfl⟩
set_option maxRecDepth 100000 in
theorem ma201 : MthAt 201 := by
  intro q hq
  cases (show gMt[201]? = some (({ cls := "OutwardDoorsModel", name := "opens", desc := "(I)Z" } : Jvm.MethodName), prog_14_method_18_code, 2, (Option.some Jvm.ClassFile.FieldType.boolean)) from rfl).symm.trans hq
  exact ⟨wat_in (p := 1620) (by decide +kernel), by decide, by decide, rfl⟩
set_option maxRecDepth 100000 in
theorem ma202 : MthAt 202 := by
  intro q hq
  cases (show gMt[202]? = some (({ cls := "OutwardDoorsModel", name := "compare", desc := "()Z" } : Jvm.MethodName), prog_14_method_24_code, 5, (Option.some Jvm.ClassFile.FieldType.boolean)) from rfl).symm.trans hq
  exact ⟨wat_in (p := 1624) (by decide +kernel), by decide, by decide, rfl⟩
set_option maxRecDepth 100000 in
theorem ma203 : MthAt 203 := by
  intro q hq
  cases (show gMt[203]? = some (({ cls := "OutwardDoorsModel", name := "closes", desc := "()V" } : Jvm.MethodName), prog_14_method_27_code, 1, (Option.none : Option Jvm.ClassFile.FieldType)) from rfl).symm.trans hq
  exact ⟨wat_in (p := 1628) (by decide +kernel), by decide, by decide, rfl⟩
set_option maxRecDepth 100000 in
theorem ma204 : MthAt 204 := by
  intro q hq
  cases (show gMt[204]? = some (({ cls := "OutwardDoorsModel", name := "settles", desc := "(I)V" } : Jvm.MethodName), prog_14_method_20_code, 2, (Option.none : Option Jvm.ClassFile.FieldType)) from rfl).symm.trans hq
  exact ⟨wat_in (p := 1632) (by decide +kernel), by decide, by decide, rfl⟩
set_option maxRecDepth 100000 in
theorem ma205 : MthAt 205 := by
  intro q hq
  cases (show gMt[205]? = some (({ cls := "OutwardDoorsModel", name := "strength", desc := "(I)I" } : Jvm.MethodName), prog_14_method_19_code, 1, (Option.some Jvm.ClassFile.FieldType.int)) from rfl).symm.trans hq
  exact ⟨wat_in (p := 1635) (by decide +kernel), by decide, by decide, rfl⟩
set_option maxRecDepth 100000 in
theorem ma206 : MthAt 206 := by
  intro q hq
  cases (show gMt[206]? = some (({ cls := "OutwardDoorsModel", name := "isInside", desc := "()Z" } : Jvm.MethodName), prog_14_method_26_code, 2, (Option.some Jvm.ClassFile.FieldType.boolean)) from rfl).symm.trans hq
  exact ⟨wat_in (p := 1639) (by decide +kernel), by decide, by decide, rfl⟩
set_option maxRecDepth 100000 in
theorem ma207 : MthAt 207 := by
  intro q hq
  cases (show gMt[207]? = some (({ cls := "OutwardDoorsModel", name := "castle", desc := "()I" } : Jvm.MethodName), prog_14_method_42_code, 2, (Option.some Jvm.ClassFile.FieldType.int)) from rfl).symm.trans hq
  exact ⟨wat_in (p := 1645) (by decide +kernel), by decide, by decide, rfl⟩
set_option maxRecDepth 100000 in
theorem ma208 : MthAt 208 := by
  intro q hq
  cases (show gMt[208]? = some (({ cls := "OutwardDoorsModel", name := "turnsDoors", desc := "()V" } : Jvm.MethodName), prog_14_method_41_code, 5, (Option.none : Option Jvm.ClassFile.FieldType)) from rfl).symm.trans hq
  exact ⟨wat_in (p := 1649) (by decide +kernel), by decide, by decide, rfl⟩
set_option maxRecDepth 100000 in
theorem ma209 : MthAt 209 := by
  intro q hq
  cases (show gMt[209]? = some (({ cls := "OutwardDoorsModel", name := "personOf", desc := "(II)I" } : Jvm.MethodName), prog_14_method_52_code, 3, (Option.some Jvm.ClassFile.FieldType.int)) from rfl).symm.trans hq
  exact ⟨wat_in (p := 1653) (by decide +kernel), by decide, by decide, rfl⟩
set_option maxRecDepth 100000 in
theorem ma210 : MthAt 210 := by
  intro q hq
  cases (show gMt[210]? = some (({ cls := "OutwardDoorsModel", name := "force", desc := "(I)I" } : Jvm.MethodName), prog_14_method_64_code, 3, (Option.some Jvm.ClassFile.FieldType.int)) from rfl).symm.trans hq
  exact ⟨wat_in (p := 1657) (by decide +kernel), by decide, by decide, rfl⟩
set_option maxRecDepth 100000 in
theorem ma211 : MthAt 211 := by
  intro q hq
  cases (show gMt[211]? = some (({ cls := "OutwardDoorsModel", name := "isRule", desc := "(I)Z" } : Jvm.MethodName), prog_14_method_43_code, 2, (Option.some Jvm.ClassFile.FieldType.boolean)) from rfl).symm.trans hq
  exact ⟨wat_in (p := 1661) (by decide +kernel), by decide, by decide, rfl⟩
set_option maxRecDepth 100000 in
theorem ma212 : MthAt 212 := by
  intro q hq
  cases (show gMt[212]? = some (({ cls := "OutwardDoorsModel", name := "person", desc := "(II)I" } : Jvm.MethodName), prog_14_method_65_code, 3, (Option.some Jvm.ClassFile.FieldType.int)) from rfl).symm.trans hq
  exact ⟨wat_in (p := 1665) (by decide +kernel), by decide, by decide, rfl⟩
set_option maxRecDepth 100000 in
theorem ma213 : MthAt 213 := by
  intro q hq
  cases (show gMt[213]? = some (({ cls := "OutwardDoorsModel", name := "isPerson", desc := "(I)Z" } : Jvm.MethodName), prog_14_method_49_code, 2, (Option.some Jvm.ClassFile.FieldType.boolean)) from rfl).symm.trans hq
  exact ⟨wat_in (p := 1669) (by decide +kernel), by decide, by decide, rfl⟩
set_option maxRecDepth 100000 in
theorem ma214 : MthAt 214 := by
  intro q hq
  cases (show gMt[214]? = some (({ cls := "OutwardDoorsModel", name := "leftOf", desc := "(I)I" } : Jvm.MethodName), prog_14_method_59_code, 2, (Option.some Jvm.ClassFile.FieldType.int)) from rfl).symm.trans hq
  exact ⟨wat_in (p := 1674) (by decide +kernel), by decide, by decide, rfl⟩
set_option maxRecDepth 100000 in
theorem ma215 : MthAt 215 := by
  intro q hq
  cases (show gMt[215]? = some (({ cls := "OutwardDoorsModel", name := "leftFrom", desc := "(II)I" } : Jvm.MethodName), prog_14_method_58_code, 3, (Option.some Jvm.ClassFile.FieldType.int)) from rfl).symm.trans hq
  exact ⟨wat_in (p := 1678) (by decide +kernel), by decide, by decide, rfl⟩
set_option maxRecDepth 100000 in
theorem ma216 : MthAt 216 := by
  intro q hq
  cases (show gMt[216]? = some (({ cls := "OutwardDoorsModel", name := "fillsDoors", desc := "(I)V" } : Jvm.MethodName), prog_14_method_57_code, 6, (Option.none : Option Jvm.ClassFile.FieldType)) from rfl).symm.trans hq
  exact ⟨wat_in (p := 1682) (by decide +kernel), by decide, by decide, rfl⟩
set_option maxRecDepth 100000 in
theorem ma217 : MthAt 217 := by
  intro q hq
  cases (show gMt[217]? = some (({ cls := "OutwardDoorsModel", name := "isOpen", desc := "(I)Z" } : Jvm.MethodName), prog_14_method_56_code, 2, (Option.some Jvm.ClassFile.FieldType.boolean)) from rfl).symm.trans hq
  exact ⟨wat_in (p := 1686) (by decide +kernel), by decide, by decide, rfl⟩
set_option maxRecDepth 100000 in
theorem ma218 : MthAt 218 := by
  intro q hq
  cases (show gMt[218]? = some (({ cls := "OutwardDoorsModel", name := "nearOf", desc := "(I)I" } : Jvm.MethodName), prog_14_method_53_code, 2, (Option.some Jvm.ClassFile.FieldType.int)) from rfl).symm.trans hq
  exact ⟨wat_in (p := 1690) (by decide +kernel), by decide, by decide, rfl⟩
set_option maxRecDepth 100000 in
theorem ma219 : MthAt 219 := by
  intro q hq
  cases (show gMt[219]? = some (({ cls := "OutwardDoorsModel", name := "farOf", desc := "(I)I" } : Jvm.MethodName), prog_14_method_54_code, 2, (Option.some Jvm.ClassFile.FieldType.int)) from rfl).symm.trans hq
  exact ⟨wat_in (p := 1694) (by decide +kernel), by decide, by decide, rfl⟩
set_option maxRecDepth 100000 in
theorem ma220 : MthAt 220 := by
  intro q hq
  cases (show gMt[220]? = some (({ cls := "OutwardDoorsModel", name := "isNight", desc := "()Z" } : Jvm.MethodName), prog_14_method_55_code, 2, (Option.some Jvm.ClassFile.FieldType.boolean)) from rfl).symm.trans hq
  exact ⟨wat_in (p := 1698) (by decide +kernel), by decide, by decide, rfl⟩
set_option maxRecDepth 100000 in
theorem ma221 : MthAt 221 := by
  intro q hq
  cases (show gMt[221]? = some (({ cls := "OutwardDoorsModel", name := "stepOf", desc := "(I)I" } : Jvm.MethodName), prog_14_method_60_code, 7, (Option.some Jvm.ClassFile.FieldType.int)) from rfl).symm.trans hq
  exact ⟨wat_in (p := 1702) (by decide +kernel), by decide, by decide, rfl⟩
set_option maxRecDepth 100000 in
theorem ma222 : MthAt 222 := by
  intro q hq
  cases (show gMt[222]? = some (({ cls := "OutwardDoorsModel", name := "room", desc := "(II)I" } : Jvm.MethodName), prog_14_method_66_code, 3, (Option.some Jvm.ClassFile.FieldType.int)) from rfl).symm.trans hq
  exact ⟨wat_in (p := 1706) (by decide +kernel), by decide, by decide, rfl⟩
set_option maxRecDepth 100000 in
theorem ma223 : MthAt 223 := by
  intro q hq
  cases (show gMt[223]? = some (({ cls := "OutwardDoorsModel", name := "isRoom", desc := "(I)Z" } : Jvm.MethodName), prog_14_method_50_code, 2, (Option.some Jvm.ClassFile.FieldType.boolean)) from rfl).symm.trans hq
  exact ⟨wat_in (p := 1710) (by decide +kernel), by decide, by decide, rfl⟩
set_option maxRecDepth 100000 in
theorem ma224 : MthAt 224 := by
  intro q hq
  cases (show gMt[224]? = some (({ cls := "OutwardDoorsModel", name := "peopleIn", desc := "(I)I" } : Jvm.MethodName), prog_14_method_62_code, 4, (Option.some Jvm.ClassFile.FieldType.int)) from rfl).symm.trans hq
  exact ⟨wat_in (p := 1715) (by decide +kernel), by decide, by decide, rfl⟩
set_option maxRecDepth 100000 in
theorem ma225 : MthAt 225 := by
  intro q hq
  cases (show gMt[225]? = some (({ cls := "OutwardDoorsModel", name := "outsideOf", desc := "(I)I" } : Jvm.MethodName), prog_14_method_63_code, 5, (Option.some Jvm.ClassFile.FieldType.int)) from rfl).symm.trans hq
  exact ⟨wat_in (p := 1719) (by decide +kernel), by decide, by decide, rfl⟩
set_option maxRecDepth 100000 in
theorem ma226 : MthAt 226 := by
  intro q hq
  cases (show gMt[226]? = some (({ cls := "OutwardDoorsModel", name := "isOf", desc := "(II)Z" } : Jvm.MethodName), prog_14_method_3_code, 2, (Option.some Jvm.ClassFile.FieldType.boolean)) from rfl).symm.trans hq
  exact ⟨wat_in (p := 1722) (by decide +kernel), by decide, by decide, rfl⟩
set_option maxRecDepth 100000 in
theorem ma227 : MthAt 227 := by
  intro q hq
  cases (show gMt[227]? = some (({ cls := "OutwardDoorsModel", name := "door", desc := "(II)I" } : Jvm.MethodName), prog_14_method_67_code, 3, (Option.some Jvm.ClassFile.FieldType.int)) from rfl).symm.trans hq
  exact ⟨wat_in (p := 1726) (by decide +kernel), by decide, by decide, rfl⟩
set_option maxRecDepth 100000 in
theorem ma228 : MthAt 228 := by
  intro q hq
  cases (show gMt[228]? = some (({ cls := "OutwardDoorsModel", name := "isDoor", desc := "(I)Z" } : Jvm.MethodName), prog_14_method_51_code, 2, (Option.some Jvm.ClassFile.FieldType.boolean)) from rfl).symm.trans hq
  exact ⟨wat_in (p := 1730) (by decide +kernel), by decide, by decide, rfl⟩
set_option maxRecDepth 100000 in
theorem ma229 : MthAt 229 := by
  intro q hq
  cases (show gMt[229]? = some (({ cls := "OutwardDoorsModel", name := "undo", desc := "()I" } : Jvm.MethodName), prog_14_method_79_code, 2, (Option.some Jvm.ClassFile.FieldType.int)) from rfl).symm.trans hq
  exact ⟨wat_in (p := 1735) (by decide +kernel), by decide, by decide, rfl⟩
set_option maxRecDepth 100000 in
theorem ma230 : MthAt 230 := by
  intro q hq
  cases (show gMt[230]? = some (({ cls := "OutwardDoorsModel", name := "moment", desc := "()I" } : Jvm.MethodName), prog_14_method_80_code, 1, (Option.some Jvm.ClassFile.FieldType.int)) from rfl).symm.trans hq
  exact ⟨wat_in (p := 1739) (by decide +kernel), by decide, by decide, rfl⟩
set_option maxRecDepth 100000 in
theorem ma231 : MthAt 231 := by
  intro q hq
  cases (show gMt[231]? = some (({ cls := "OutwardDoorsModel", name := "isCastle", desc := "()Z" } : Jvm.MethodName), prog_14_method_48_code, 1, (Option.some Jvm.ClassFile.FieldType.boolean)) from rfl).symm.trans hq
  exact ⟨wat_in (p := 1743) (by decide +kernel), by decide, by decide, rfl⟩
set_option maxRecDepth 100000 in
theorem ma232 : MthAt 232 := by
  intro q hq
  cases (show gMt[232]? = some (({ cls := "OutwardDoorsModel", name := "keepsAct", desc := "()V" } : Jvm.MethodName), prog_14_method_78_code, 2, (Option.none : Option Jvm.ClassFile.FieldType)) from rfl).symm.trans hq
  exact ⟨wat_in (p := 1747) (by decide +kernel), by decide, by decide, rfl⟩
set_option maxRecDepth 100000 in
theorem ma233 : MthAt 233 := by
  intro q hq
  cases (show gMt[233]? = some (({ cls := "OutwardDoorsModel", name := "passes", desc := "()I" } : Jvm.MethodName), prog_14_method_77_code, 4, (Option.some Jvm.ClassFile.FieldType.int)) from rfl).symm.trans hq
  exact ⟨wat_in (p := 1751) (by decide +kernel), by decide, by decide, rfl⟩
set_option maxRecDepth 100000 in
theorem ma234 : MthAt 234 := by
  intro q hq
  cases (show gMt[234]? = some (({ cls := "OutwardDoorsModel", name := "wills", desc := "(I)V" } : Jvm.MethodName), prog_14_method_73_code, 6, (Option.none : Option Jvm.ClassFile.FieldType)) from rfl).symm.trans hq
  exact ⟨wat_in (p := 1755) (by decide +kernel), by decide, by decide, rfl⟩
set_option maxRecDepth 100000 in
theorem ma235 : MthAt 235 := by
  intro q hq
  cases (show gMt[235]? = some (({ cls := "OutwardDoorsModel", name := "words", desc := "(I)V" } : Jvm.MethodName), prog_14_method_70_code, 3, (Option.none : Option Jvm.ClassFile.FieldType)) from rfl).symm.trans hq
  exact ⟨wat_in (p := 1759) (by decide +kernel), by decide, by decide, rfl⟩
set_option maxRecDepth 100000 in
theorem ma236 : MthAt 236 := by
  intro q hq
  cases (show gMt[236]? = some (({ cls := "OutwardDoorsModel", name := "bits", desc := "(I)I" } : Jvm.MethodName), prog_14_method_69_code, 3, (Option.some Jvm.ClassFile.FieldType.int)) from rfl).symm.trans hq
  exact ⟨wat_in (p := 1762) (by decide +kernel), by decide, by decide, rfl⟩
set_option maxRecDepth 100000 in
theorem ma237 : MthAt 237 := by
  intro q hq
  cases (show gMt[237]? = some (({ cls := "OutwardDoorsModel", name := "askersOf", desc := "(I)I" } : Jvm.MethodName), prog_14_method_68_code, 5, (Option.some Jvm.ClassFile.FieldType.int)) from rfl).symm.trans hq
  exact ⟨wat_in (p := 1766) (by decide +kernel), by decide, by decide, rfl⟩
set_option maxRecDepth 100000 in
theorem ma238 : MthAt 238 := by
  intro q hq
  cases (show gMt[238]? = some (({ cls := "OutwardDoorsModel", name := "summedBy", desc := "(I)J" } : Jvm.MethodName), prog_14_method_71_code, 4, (Option.some Jvm.ClassFile.FieldType.long)) from rfl).symm.trans hq
  exact ⟨wat_in (p := 1770) (by decide +kernel), by decide, by decide, rfl⟩
set_option maxRecDepth 100000 in
theorem ma239 : MthAt 239 := by
  intro q hq
  cases (show gMt[239]? = some (({ cls := "OutwardDoorsModel", name := "reckons", desc := "(III)J" } : Jvm.MethodName), prog_14_method_47_code, 11, (Option.some Jvm.ClassFile.FieldType.long)) from rfl).symm.trans hq
  exact ⟨wat_in (p := 1774) (by decide +kernel), by decide, by decide, rfl⟩
set_option maxRecDepth 100000 in
theorem ma240 : MthAt 240 := by
  intro q hq
  cases (show gMt[240]? = some (({ cls := "OutwardDoorsModel", name := "push", desc := "(J)V" } : Jvm.MethodName), prog_14_method_44_code, 3, (Option.none : Option Jvm.ClassFile.FieldType)) from rfl).symm.trans hq
  exact ⟨wat_in (p := 1778) (by decide +kernel), by decide, by decide, rfl⟩
set_option maxRecDepth 100000 in
theorem ma241 : MthAt 241 := by
  intro q hq
  cases (show gMt[241]? = some (({ cls := "OutwardDoorsModel", name := "pop", desc := "()J" } : Jvm.MethodName), prog_14_method_45_code, 1, (Option.some Jvm.ClassFile.FieldType.long)) from rfl).symm.trans hq
  exact ⟨wat_in (p := 1782) (by decide +kernel), by decide, by decide, rfl⟩
set_option maxRecDepth 100000 in
theorem ma242 : MthAt 242 := by
  intro q hq
  cases (show gMt[242]? = some (({ cls := "OutwardDoorsModel", name := "one", desc := "(IJJ)J" } : Jvm.MethodName), prog_14_method_46_code, 5, (Option.some Jvm.ClassFile.FieldType.long)) from rfl).symm.trans hq
  exact ⟨wat_in (p := 1785) (by decide +kernel), by decide, by decide, rfl⟩
set_option maxRecDepth 100000 in
theorem ma243 : MthAt 243 := by
  intro q hq
  cases (show gMt[243]? = some (({ cls := "OutwardDoorsModel", name := "firstOut", desc := "(I)I" } : Jvm.MethodName), prog_14_method_72_code, 3, (Option.some Jvm.ClassFile.FieldType.int)) from rfl).symm.trans hq
  exact ⟨wat_in (p := 1789) (by decide +kernel), by decide, by decide, rfl⟩
set_option maxRecDepth 100000 in
theorem ma244 : MthAt 244 := by
  intro q hq
  cases (show gMt[244]? = some (({ cls := "OutwardDoorsModel", name := "doorBetween", desc := "(II)I" } : Jvm.MethodName), prog_14_method_61_code, 4, (Option.some Jvm.ClassFile.FieldType.int)) from rfl).symm.trans hq
  exact ⟨wat_in (p := 1793) (by decide +kernel), by decide, by decide, rfl⟩
set_option maxRecDepth 100000 in
theorem ma245 : MthAt 245 := by
  intro q hq
  cases (show gMt[245]? = some (({ cls := "OutwardDoorsModel", name := "goesOut", desc := "(II)V" } : Jvm.MethodName), prog_14_method_74_code, 4, (Option.none : Option Jvm.ClassFile.FieldType)) from rfl).symm.trans hq
  exact ⟨wat_in (p := 1797) (by decide +kernel), by decide, by decide, rfl⟩
set_option maxRecDepth 100000 in
theorem ma246 : MthAt 246 := by
  intro q hq
  cases (show gMt[246]? = some (({ cls := "OutwardDoorsModel", name := "willer", desc := "(IZI)I" } : Jvm.MethodName), prog_14_method_76_code, 6, (Option.some Jvm.ClassFile.FieldType.int)) from rfl).symm.trans hq
  exact ⟨wat_in (p := 1801) (by decide +kernel), by decide, by decide, rfl⟩
set_option maxRecDepth 100000 in
theorem ma247 : MthAt 247 := by
  intro q hq
  cases (show gMt[247]? = some (({ cls := "OutwardDoorsModel", name := "comesIn", desc := "(III)V" } : Jvm.MethodName), prog_14_method_75_code, 5, (Option.none : Option Jvm.ClassFile.FieldType)) from rfl).symm.trans hq
  exact ⟨wat_in (p := 1805) (by decide +kernel), by decide, by decide, rfl⟩
set_option maxRecDepth 100000 in
theorem ma248 : MthAt 248 := by
  intro q hq
  cases (show gMt[248]? = some (({ cls := "OutwardDoorsModel", name := "aim", desc := "(II)I" } : Jvm.MethodName), prog_14_method_81_code, 4, (Option.some Jvm.ClassFile.FieldType.int)) from rfl).symm.trans hq
  exact ⟨wat_in (p := 1809) (by decide +kernel), by decide, by decide, rfl⟩
set_option maxRecDepth 100000 in
theorem ma249 : MthAt 249 := by
  intro q hq
  cases (show gMt[249]? = some (({ cls := "OutwardDoorsModel", name := "send", desc := "(III)Z" } : Jvm.MethodName), prog_14_method_82_code, 4, (Option.some Jvm.ClassFile.FieldType.boolean)) from rfl).symm.trans hq
  exact ⟨wat_in (p := 1813) (by decide +kernel), by decide, by decide, rfl⟩
set_option maxRecDepth 100000 in
theorem ma250 : MthAt 250 := by
  intro q hq
  cases (show gMt[250]? = some (({ cls := "OutwardDoorsModel", name := "ahead", desc := "(II)I" } : Jvm.MethodName), prog_14_method_85_code, 4, (Option.some Jvm.ClassFile.FieldType.int)) from rfl).symm.trans hq
  exact ⟨wat_in (p := 1817) (by decide +kernel), by decide, by decide, rfl⟩
set_option maxRecDepth 100000 in
theorem ma251 : MthAt 251 := by
  intro q hq
  cases (show gMt[251]? = some (({ cls := "OutwardDoorsModel", name := "keeps", desc := "()V" } : Jvm.MethodName), prog_14_method_83_code, 2, (Option.none : Option Jvm.ClassFile.FieldType)) from rfl).symm.trans hq
  exact ⟨wat_in (p := 1822) (by decide +kernel), by decide, by decide, rfl⟩
set_option maxRecDepth 100000 in
theorem ma252 : MthAt 252 := by
  intro q hq
  cases (show gMt[252]? = some (({ cls := "OutwardDoorsModel", name := "laysBack", desc := "()V" } : Jvm.MethodName), prog_14_method_84_code, 2, (Option.none : Option Jvm.ClassFile.FieldType)) from rfl).symm.trans hq
  exact ⟨wat_in (p := 1826) (by decide +kernel), by decide, by decide, rfl⟩
set_option maxRecDepth 100000 in
theorem ma253 : MthAt 253 := by
  intro q hq
  cases (show gMt[253]? = some (({ cls := "OutwardDoorsModel", name := "comes", desc := "(I)I" } : Jvm.MethodName), prog_14_method_86_code, 4, (Option.some Jvm.ClassFile.FieldType.int)) from rfl).symm.trans hq
  exact ⟨wat_in (p := 1830) (by decide +kernel), by decide, by decide, rfl⟩
set_option maxRecDepth 100000 in
theorem ma254 : MthAt 254 := by
  intro q hq
  cases (show gMt[254]? = some (({ cls := "OutwardDoorsModel", name := "fewest", desc := "(I)I" } : Jvm.MethodName), prog_14_method_98_code, 3, (Option.some Jvm.ClassFile.FieldType.int)) from rfl).symm.trans hq
  exact ⟨wat_in (p := 1834) (by decide +kernel), by decide, by decide, rfl⟩
set_option maxRecDepth 100000 in
theorem ma255 : MthAt 255 := by
  intro q hq
  cases (show gMt[255]? = some (({ cls := "OutwardDoorsModel", name := "isSet", desc := "(I)Z" } : Jvm.MethodName), prog_14_method_97_code, 2, (Option.some Jvm.ClassFile.FieldType.boolean)) from rfl).symm.trans hq
  exact ⟨wat_in (p := 1838) (by decide +kernel), by decide, by decide, rfl⟩
set_option maxRecDepth 100000 in
theorem ma256 : MthAt 256 := by
  intro q hq
  cases (show gMt[256]? = some (({ cls := "OutwardDoorsModel", name := "fillsPassings", desc := "(III)V" } : Jvm.MethodName), prog_14_method_96_code, 5, (Option.none : Option Jvm.ClassFile.FieldType)) from rfl).symm.trans hq
  exact ⟨wat_in (p := 1842) (by decide +kernel), by decide, by decide, rfl⟩
set_option maxRecDepth 100000 in
theorem ma257 : MthAt 257 := by
  intro q hq
  cases (show gMt[257]? = some (({ cls := "OutwardDoorsModel", name := "clears", desc := "(I)V" } : Jvm.MethodName), prog_14_method_95_code, 3, (Option.none : Option Jvm.ClassFile.FieldType)) from rfl).symm.trans hq
  exact ⟨wat_in (p := 1846) (by decide +kernel), by decide, by decide, rfl⟩
set_option maxRecDepth 100000 in
theorem ma258 : MthAt 258 := by
  intro q hq
  cases (show gMt[258]? = some (({ cls := "OutwardDoorsModel", name := "power", desc := "(I)I" } : Jvm.MethodName), prog_14_method_87_code, 4, (Option.some Jvm.ClassFile.FieldType.int)) from rfl).symm.trans hq
  exact ⟨wat_in (p := 1850) (by decide +kernel), by decide, by decide, rfl⟩
set_option maxRecDepth 100000 in
theorem ma259 : MthAt 259 := by
  intro q hq
  cases (show gMt[259]? = some (({ cls := "OutwardDoorsModel", name := "areAtGoals", desc := "(II)Z" } : Jvm.MethodName), prog_14_method_91_code, 4, (Option.some Jvm.ClassFile.FieldType.boolean)) from rfl).symm.trans hq
  exact ⟨wat_in (p := 1854) (by decide +kernel), by decide, by decide, rfl⟩
set_option maxRecDepth 100000 in
theorem ma260 : MthAt 260 := by
  intro q hq
  cases (show gMt[260]? = some (({ cls := "OutwardDoorsModel", name := "roomIn", desc := "(II)I" } : Jvm.MethodName), prog_14_method_88_code, 3, (Option.some Jvm.ClassFile.FieldType.int)) from rfl).symm.trans hq
  exact ⟨wat_in (p := 1858) (by decide +kernel), by decide, by decide, rfl⟩
set_option maxRecDepth 100000 in
theorem ma261 : MthAt 261 := by
  intro q hq
  cases (show gMt[261]? = some (({ cls := "OutwardDoorsModel", name := "reaches", desc := "(II)V" } : Jvm.MethodName), prog_14_method_92_code, 3, (Option.none : Option Jvm.ClassFile.FieldType)) from rfl).symm.trans hq
  exact ⟨wat_in (p := 1862) (by decide +kernel), by decide, by decide, rfl⟩
set_option maxRecDepth 100000 in
theorem ma262 : MthAt 262 := by
  intro q hq
  cases (show gMt[262]? = some (({ cls := "OutwardDoorsModel", name := "goesBack", desc := "(I)V" } : Jvm.MethodName), prog_14_method_94_code, 3, (Option.none : Option Jvm.ClassFile.FieldType)) from rfl).symm.trans hq
  exact ⟨wat_in (p := 1866) (by decide +kernel), by decide, by decide, rfl⟩
set_option maxRecDepth 100000 in
theorem ma263 : MthAt 263 := by
  intro q hq
  cases (show gMt[263]? = some (({ cls := "OutwardDoorsModel", name := "reachesBack", desc := "(II)V" } : Jvm.MethodName), prog_14_method_93_code, 8, (Option.none : Option Jvm.ClassFile.FieldType)) from rfl).symm.trans hq
  exact ⟨wat_in (p := 1870) (by decide +kernel), by decide, by decide, rfl⟩
set_option maxRecDepth 100000 in
theorem ma264 : MthAt 264 := by
  intro q hq
  cases (show gMt[264]? = some (({ cls := "OutwardDoorsModel", name := "moved", desc := "(III)I" } : Jvm.MethodName), prog_14_method_89_code, 4, (Option.some Jvm.ClassFile.FieldType.int)) from rfl).symm.trans hq
  exact ⟨wat_in (p := 1874) (by decide +kernel), by decide, by decide, rfl⟩
set_option maxRecDepth 100000 in
theorem ma265 : MthAt 265 := by
  intro q hq
  cases (show gMt[265]? = some (({ cls := "OutwardDoorsModel", name := "codeNow", desc := "()I" } : Jvm.MethodName), prog_14_method_90_code, 3, (Option.some Jvm.ClassFile.FieldType.int)) from rfl).symm.trans hq
  exact ⟨wat_in (p := 1878) (by decide +kernel), by decide, by decide, rfl⟩
set_option maxRecDepth 100000 in
theorem ma266 : MthAt 266 := by
  intro q hq
  cases (show gMt[266]? = some (({ cls := "OutwardDoorsModel", name := "passing", desc := "(III)I" } : Jvm.MethodName), prog_14_method_100_code, 6, (Option.some Jvm.ClassFile.FieldType.int)) from rfl).symm.trans hq
  exact ⟨wat_in (p := 1882) (by decide +kernel), by decide, by decide, rfl⟩
set_option maxRecDepth 100000 in
theorem ma267 : MthAt 267 := by
  intro q hq
  cases (show gMt[267]? = some (({ cls := "OutwardDoorsModel", name := "nextCode", desc := "(I)I" } : Jvm.MethodName), prog_14_method_99_code, 7, (Option.some Jvm.ClassFile.FieldType.int)) from rfl).symm.trans hq
  exact ⟨wat_in (p := 1886) (by decide +kernel), by decide, by decide, rfl⟩
set_option maxRecDepth 100000 in
theorem ma268 : MthAt 268 := by
  intro q hq
  cases (show gMt[268]? = some (({ cls := "OutwardDoorsModel", name := "caught", desc := "(I)I" } : Jvm.MethodName), prog_14_method_101_code, 6, (Option.some Jvm.ClassFile.FieldType.int)) from rfl).symm.trans hq
  exact ⟨wat_in (p := 1890) (by decide +kernel), by decide, by decide, rfl⟩
set_option maxRecDepth 100000 in
theorem ma269 : MthAt 269 := by
  intro q hq
  cases (show gMt[269]? = some (({ cls := "OutwardDoorsModel", name := "page", desc := "(II)I" } : Jvm.MethodName), prog_14_method_102_code, 7, (Option.some Jvm.ClassFile.FieldType.int)) from rfl).symm.trans hq
  exact ⟨wat_in (p := 1894) (by decide +kernel), by decide, by decide, rfl⟩
set_option maxRecDepth 100000 in
theorem ma270 : MthAt 270 := by
  intro q hq
  cases (show gMt[270]? = some (({ cls := "OutwardDoorsModel", name := "price", desc := "(I)I" } : Jvm.MethodName), prog_14_method_104_code, 5, (Option.some Jvm.ClassFile.FieldType.int)) from rfl).symm.trans hq
  exact ⟨wat_in (p := 1898) (by decide +kernel), by decide, by decide, rfl⟩
set_option maxRecDepth 100000 in
theorem ma271 : MthAt 271 := by
  intro q hq
  cases (show gMt[271]? = some (({ cls := "OutwardDoorsModel", name := "paysBack", desc := "(II)Z" } : Jvm.MethodName), prog_14_method_103_code, 10, (Option.some Jvm.ClassFile.FieldType.boolean)) from rfl).symm.trans hq
  exact ⟨wat_in (p := 1902) (by decide +kernel), by decide, by decide, rfl⟩
set_option maxRecDepth 100000 in
theorem ma272 : MthAt 272 := by
  intro q hq
  cases (show gMt[272]? = some (({ cls := "OutwardDoorsModel", name := "turned", desc := "(II)I" } : Jvm.MethodName), prog_14_method_105_code, 4, (Option.some Jvm.ClassFile.FieldType.int)) from rfl).symm.trans hq
  exact ⟨wat_in (p := 1906) (by decide +kernel), by decide, by decide, rfl⟩
set_option maxRecDepth 100000 in
theorem ma273 : MthAt 273 := by
  intro q hq
  cases (show gMt[273]? = some (({ cls := "OutwardDoorsModel", name := "swap", desc := "(I)I" } : Jvm.MethodName), prog_14_method_107_code, 7, (Option.some Jvm.ClassFile.FieldType.int)) from rfl).symm.trans hq
  exact ⟨wat_in (p := 1910) (by decide +kernel), by decide, by decide, rfl⟩
set_option maxRecDepth 100000 in
theorem ma274 : MthAt 274 := by
  intro q hq
  cases (show gMt[274]? = some (({ cls := "OutwardDoorsModel", name := "isNearerAt", desc := "(II)Z" } : Jvm.MethodName), prog_14_method_106_code, 3, (Option.some Jvm.ClassFile.FieldType.boolean)) from rfl).symm.trans hq
  exact ⟨wat_in (p := 1914) (by decide +kernel), by decide, by decide, rfl⟩
set_option maxRecDepth 100000 in
theorem ma275 : MthAt 275 := by
  intro q hq
  cases (show gMt[275]? = some (({ cls := "OutwardDoorsModel", name := "note", desc := "(III)I" } : Jvm.MethodName), prog_14_method_108_code, 5, (Option.some Jvm.ClassFile.FieldType.int)) from rfl).symm.trans hq
  exact ⟨wat_in (p := 1918) (by decide +kernel), by decide, by decide, rfl⟩
set_option maxRecDepth 100000 in
theorem ma276 : MthAt 276 := by
  intro q hq
  cases (show gMt[276]? = some (({ cls := "OutwardDoorsModel", name := "ruled", desc := "(I)I" } : Jvm.MethodName), prog_14_method_112_code, 5, (Option.some Jvm.ClassFile.FieldType.int)) from rfl).symm.trans hq
  exact ⟨wat_in (p := 1923) (by decide +kernel), by decide, by decide, rfl⟩
set_option maxRecDepth 100000 in
theorem ma277 : MthAt 277 := by
  intro q hq
  cases (show gMt[277]? = some (({ cls := "OutwardDoorsModel", name := "gathersRules", desc := "(I)V" } : Jvm.MethodName), prog_14_method_111_code, 6, (Option.none : Option Jvm.ClassFile.FieldType)) from rfl).symm.trans hq
  exact ⟨wat_in (p := 1927) (by decide +kernel), by decide, by decide, rfl⟩
set_option maxRecDepth 100000 in
theorem ma278 : MthAt 278 := by
  intro q hq
  cases (show gMt[278]? = some (({ cls := "OutwardDoorsModel", name := "begins", desc := "()V" } : Jvm.MethodName), prog_14_method_109_code, 3, (Option.none : Option Jvm.ClassFile.FieldType)) from rfl).symm.trans hq
  exact ⟨wat_in (p := 1931) (by decide +kernel), by decide, by decide, rfl⟩
set_option maxRecDepth 100000 in
theorem ma279 : MthAt 279 := by
  intro q hq
  cases (show gMt[279]? = some (({ cls := "OutwardDoorsModel", name := "areNotesSo", desc := "()Z" } : Jvm.MethodName), prog_14_method_110_code, 3, (Option.some Jvm.ClassFile.FieldType.boolean)) from rfl).symm.trans hq
  exact ⟨wat_in (p := 1935) (by decide +kernel), by decide, by decide, rfl⟩
set_option maxRecDepth 100000 in
theorem ma280 : MthAt 280 := by
  intro q hq
  cases (show gMt[280]? = some (({ cls := "OutwardDoorsModel", name := "look", desc := "(II)I" } : Jvm.MethodName), prog_14_method_114_code, 7, (Option.some Jvm.ClassFile.FieldType.int)) from rfl).symm.trans hq
  exact ⟨wat_in (p := 1939) (by decide +kernel), by decide, by decide, rfl⟩
set_option maxRecDepth 100000 in
theorem ma281 : MthAt 281 := by
  intro q hq
  cases (show gMt[281]? = some (({ cls := "OutwardDoorsModel", name := "alikeOf", desc := "(I)I" } : Jvm.MethodName), prog_14_method_113_code, 6, (Option.some Jvm.ClassFile.FieldType.int)) from rfl).symm.trans hq
  exact ⟨wat_in (p := 1943) (by decide +kernel), by decide, by decide, rfl⟩
set_option maxRecDepth 100000 in
theorem ma282 : MthAt 282 := by
  intro q hq
  cases (show gMt[282]? = some (({ cls := "OutwardDoorsModel", name := "seed", desc := "(I)I" } : Jvm.MethodName), prog_14_method_115_code, 3, (Option.some Jvm.ClassFile.FieldType.int)) from rfl).symm.trans hq
  exact ⟨wat_in (p := 1947) (by decide +kernel), by decide, by decide, rfl⟩
set_option maxRecDepth 100000 in
theorem ma283 : MthAt 283 := by
  intro q hq
  cases (show gMt[283]? = some (({ cls := "OutwardDoorsModel", name := "days", desc := "(III)I" } : Jvm.MethodName), prog_14_method_119_code, 8, (Option.some Jvm.ClassFile.FieldType.int)) from rfl).symm.trans hq
  exact ⟨wat_in (p := 1951) (by decide +kernel), by decide, by decide, rfl⟩
set_option maxRecDepth 100000 in
theorem ma284 : MthAt 284 := by
  intro q hq
  cases (show gMt[284]? = some (({ cls := "OutwardDoorsModel", name := "countOf", desc := "(I)I" } : Jvm.MethodName), prog_14_method_118_code, 4, (Option.some Jvm.ClassFile.FieldType.int)) from rfl).symm.trans hq
  exact ⟨wat_in (p := 1956) (by decide +kernel), by decide, by decide, rfl⟩
set_option maxRecDepth 100000 in
theorem ma285 : MthAt 285 := by
  intro q hq
  cases (show gMt[285]? = some (({ cls := "OutwardDoorsModel", name := "aimsDrawn", desc := "()V" } : Jvm.MethodName), prog_14_method_117_code, 2, (Option.none : Option Jvm.ClassFile.FieldType)) from rfl).symm.trans hq
  exact ⟨wat_in (p := 1960) (by decide +kernel), by decide, by decide, rfl⟩
set_option maxRecDepth 100000 in
theorem ma286 : MthAt 286 := by
  intro q hq
  cases (show gMt[286]? = some (({ cls := "OutwardDoorsModel", name := "draw", desc := "(I)I" } : Jvm.MethodName), prog_14_method_116_code, 2, (Option.some Jvm.ClassFile.FieldType.int)) from rfl).symm.trans hq
  exact ⟨wat_in (p := 1964) (by decide +kernel), by decide, by decide, rfl⟩
set_option maxRecDepth 100000 in
theorem ma287 : MthAt 287 := by
  intro q hq
  cases (show gMt[287]? = some (({ cls := "OutwardDoorsModel", name := "count", desc := "(I)I" } : Jvm.MethodName), prog_14_method_120_code, 2, (Option.some Jvm.ClassFile.FieldType.int)) from rfl).symm.trans hq
  exact ⟨wat_in (p := 1972) (by decide +kernel), by decide, by decide, rfl⟩
set_option maxRecDepth 100000 in
theorem ma288 : MthAt 288 := by
  intro q hq
  cases (show gMt[288]? = some (({ cls := "OutwardDoorsModel", name := "image", desc := "(I)I" } : Jvm.MethodName), prog_14_method_121_code, 3, (Option.some Jvm.ClassFile.FieldType.int)) from rfl).symm.trans hq
  exact ⟨wat_in (p := 1976) (by decide +kernel), by decide, by decide, rfl⟩
set_option maxRecDepth 100000 in
theorem ma289 : MthAt 289 := by
  intro q hq
  cases (show gMt[289]? = some (({ cls := "OutwardDoorsModel", name := "back", desc := "(I)I" } : Jvm.MethodName), prog_14_method_122_code, 3, (Option.some Jvm.ClassFile.FieldType.int)) from rfl).symm.trans hq
  exact ⟨wat_in (p := 1980) (by decide +kernel), by decide, by decide, rfl⟩
theorem rows_all_25 : ∀ y, y < 25 → RowsAt y := (lt_s (lt_s (lt_s (lt_s (lt_s (lt_s (lt_s (lt_s (lt_s (lt_s (lt_s (lt_s (lt_s (lt_s (lt_s (lt_s (lt_s (lt_s (lt_s (lt_s (lt_s (lt_s (lt_s (lt_s (lt_s lt_0 ra0) ra1) ra2) ra3) ra4) ra5) ra6) ra7) ra8) ra9) ra10) ra11) ra12) ra13) ra14) ra15) ra16) ra17) ra18) ra19) ra20) ra21) ra22) ra23) ra24)
theorem rows_all_50 : ∀ y, y < 50 → RowsAt y := (lt_s (lt_s (lt_s (lt_s (lt_s (lt_s (lt_s (lt_s (lt_s (lt_s (lt_s (lt_s (lt_s (lt_s (lt_s (lt_s (lt_s (lt_s (lt_s (lt_s (lt_s (lt_s (lt_s (lt_s (lt_s rows_all_25 ra25) ra26) ra27) ra28) ra29) ra30) ra31) ra32) ra33) ra34) ra35) ra36) ra37) ra38) ra39) ra40) ra41) ra42) ra43) ra44) ra45) ra46) ra47) ra48) ra49)
theorem rows_all_75 : ∀ y, y < 75 → RowsAt y := (lt_s (lt_s (lt_s (lt_s (lt_s (lt_s (lt_s (lt_s (lt_s (lt_s (lt_s (lt_s (lt_s (lt_s (lt_s (lt_s (lt_s (lt_s (lt_s (lt_s (lt_s (lt_s (lt_s (lt_s (lt_s rows_all_50 ra50) ra51) ra52) ra53) ra54) ra55) ra56) ra57) ra58) ra59) ra60) ra61) ra62) ra63) ra64) ra65) ra66) ra67) ra68) ra69) ra70) ra71) ra72) ra73) ra74)
theorem rows_all_100 : ∀ y, y < 100 → RowsAt y := (lt_s (lt_s (lt_s (lt_s (lt_s (lt_s (lt_s (lt_s (lt_s (lt_s (lt_s (lt_s (lt_s (lt_s (lt_s (lt_s (lt_s (lt_s (lt_s (lt_s (lt_s (lt_s (lt_s (lt_s (lt_s rows_all_75 ra75) ra76) ra77) ra78) ra79) ra80) ra81) ra82) ra83) ra84) ra85) ra86) ra87) ra88) ra89) ra90) ra91) ra92) ra93) ra94) ra95) ra96) ra97) ra98) ra99)
theorem rows_all_125 : ∀ y, y < 125 → RowsAt y := (lt_s (lt_s (lt_s (lt_s (lt_s (lt_s (lt_s (lt_s (lt_s (lt_s (lt_s (lt_s (lt_s (lt_s (lt_s (lt_s (lt_s (lt_s (lt_s (lt_s (lt_s (lt_s (lt_s (lt_s (lt_s rows_all_100 ra100) ra101) ra102) ra103) ra104) ra105) ra106) ra107) ra108) ra109) ra110) ra111) ra112) ra113) ra114) ra115) ra116) ra117) ra118) ra119) ra120) ra121) ra122) ra123) ra124)
theorem rows_all_150 : ∀ y, y < 150 → RowsAt y := (lt_s (lt_s (lt_s (lt_s (lt_s (lt_s (lt_s (lt_s (lt_s (lt_s (lt_s (lt_s (lt_s (lt_s (lt_s (lt_s (lt_s (lt_s (lt_s (lt_s (lt_s (lt_s (lt_s (lt_s (lt_s rows_all_125 ra125) ra126) ra127) ra128) ra129) ra130) ra131) ra132) ra133) ra134) ra135) ra136) ra137) ra138) ra139) ra140) ra141) ra142) ra143) ra144) ra145) ra146) ra147) ra148) ra149)
theorem rows_all_175 : ∀ y, y < 175 → RowsAt y := (lt_s (lt_s (lt_s (lt_s (lt_s (lt_s (lt_s (lt_s (lt_s (lt_s (lt_s (lt_s (lt_s (lt_s (lt_s (lt_s (lt_s (lt_s (lt_s (lt_s (lt_s (lt_s (lt_s (lt_s (lt_s rows_all_150 ra150) ra151) ra152) ra153) ra154) ra155) ra156) ra157) ra158) ra159) ra160) ra161) ra162) ra163) ra164) ra165) ra166) ra167) ra168) ra169) ra170) ra171) ra172) ra173) ra174)
theorem rows_all_200 : ∀ y, y < 200 → RowsAt y := (lt_s (lt_s (lt_s (lt_s (lt_s (lt_s (lt_s (lt_s (lt_s (lt_s (lt_s (lt_s (lt_s (lt_s (lt_s (lt_s (lt_s (lt_s (lt_s (lt_s (lt_s (lt_s (lt_s (lt_s (lt_s rows_all_175 ra175) ra176) ra177) ra178) ra179) ra180) ra181) ra182) ra183) ra184) ra185) ra186) ra187) ra188) ra189) ra190) ra191) ra192) ra193) ra194) ra195) ra196) ra197) ra198) ra199)
theorem rows_all_225 : ∀ y, y < 225 → RowsAt y := (lt_s (lt_s (lt_s (lt_s (lt_s (lt_s (lt_s (lt_s (lt_s (lt_s (lt_s (lt_s (lt_s (lt_s (lt_s (lt_s (lt_s (lt_s (lt_s (lt_s (lt_s (lt_s (lt_s (lt_s (lt_s rows_all_200 ra200) ra201) ra202) ra203) ra204) ra205) ra206) ra207) ra208) ra209) ra210) ra211) ra212) ra213) ra214) ra215) ra216) ra217) ra218) ra219) ra220) ra221) ra222) ra223) ra224)
theorem rows_all_250 : ∀ y, y < 250 → RowsAt y := (lt_s (lt_s (lt_s (lt_s (lt_s (lt_s (lt_s (lt_s (lt_s (lt_s (lt_s (lt_s (lt_s (lt_s (lt_s (lt_s (lt_s (lt_s (lt_s (lt_s (lt_s (lt_s (lt_s (lt_s (lt_s rows_all_225 ra225) ra226) ra227) ra228) ra229) ra230) ra231) ra232) ra233) ra234) ra235) ra236) ra237) ra238) ra239) ra240) ra241) ra242) ra243) ra244) ra245) ra246) ra247) ra248) ra249)
theorem rows_all_275 : ∀ y, y < 275 → RowsAt y := (lt_s (lt_s (lt_s (lt_s (lt_s (lt_s (lt_s (lt_s (lt_s (lt_s (lt_s (lt_s (lt_s (lt_s (lt_s (lt_s (lt_s (lt_s (lt_s (lt_s (lt_s (lt_s (lt_s (lt_s (lt_s rows_all_250 ra250) ra251) ra252) ra253) ra254) ra255) ra256) ra257) ra258) ra259) ra260) ra261) ra262) ra263) ra264) ra265) ra266) ra267) ra268) ra269) ra270) ra271) ra272) ra273) ra274)
theorem rows_all_291 : ∀ y, y < 291 → RowsAt y := (lt_s (lt_s (lt_s (lt_s (lt_s (lt_s (lt_s (lt_s (lt_s (lt_s (lt_s (lt_s (lt_s (lt_s (lt_s (lt_s rows_all_275 ra275) ra276) ra277) ra278) ra279) ra280) ra281) ra282) ra283) ra284) ra285) ra286) ra287) ra288) ra289) ra290)
set_option maxRecDepth 100000 in
theorem rows_ok : RowsOK := fun y h => rows_all_291 y (by have e : gMt.length = 291 := rfl; omega)
theorem mth_all_25 : ∀ y, y < 25 → MthAt y := (lt_s (lt_s (lt_s (lt_s (lt_s (lt_s (lt_s (lt_s (lt_s (lt_s (lt_s (lt_s (lt_s (lt_s (lt_s (lt_s (lt_s (lt_s (lt_s (lt_s (lt_s (lt_s (lt_s (lt_s (lt_s lt_0 ma0) ma1) ma2) ma3) ma4) ma5) ma6) ma7) ma8) ma9) ma10) ma11) ma12) ma13) ma14) ma15) ma16) ma17) ma18) ma19) ma20) ma21) ma22) ma23) ma24)
theorem mth_all_50 : ∀ y, y < 50 → MthAt y := (lt_s (lt_s (lt_s (lt_s (lt_s (lt_s (lt_s (lt_s (lt_s (lt_s (lt_s (lt_s (lt_s (lt_s (lt_s (lt_s (lt_s (lt_s (lt_s (lt_s (lt_s (lt_s (lt_s (lt_s (lt_s mth_all_25 ma25) ma26) ma27) ma28) ma29) ma30) ma31) ma32) ma33) ma34) ma35) ma36) ma37) ma38) ma39) ma40) ma41) ma42) ma43) ma44) ma45) ma46) ma47) ma48) ma49)
theorem mth_all_75 : ∀ y, y < 75 → MthAt y := (lt_s (lt_s (lt_s (lt_s (lt_s (lt_s (lt_s (lt_s (lt_s (lt_s (lt_s (lt_s (lt_s (lt_s (lt_s (lt_s (lt_s (lt_s (lt_s (lt_s (lt_s (lt_s (lt_s (lt_s (lt_s mth_all_50 ma50) ma51) ma52) ma53) ma54) ma55) ma56) ma57) ma58) ma59) ma60) ma61) ma62) ma63) ma64) ma65) ma66) ma67) ma68) ma69) ma70) ma71) ma72) ma73) ma74)
theorem mth_all_100 : ∀ y, y < 100 → MthAt y := (lt_s (lt_s (lt_s (lt_s (lt_s (lt_s (lt_s (lt_s (lt_s (lt_s (lt_s (lt_s (lt_s (lt_s (lt_s (lt_s (lt_s (lt_s (lt_s (lt_s (lt_s (lt_s (lt_s (lt_s (lt_s mth_all_75 ma75) ma76) ma77) ma78) ma79) ma80) ma81) ma82) ma83) ma84) ma85) ma86) ma87) ma88) ma89) ma90) ma91) ma92) ma93) ma94) ma95) ma96) ma97) ma98) ma99)
theorem mth_all_125 : ∀ y, y < 125 → MthAt y := (lt_s (lt_s (lt_s (lt_s (lt_s (lt_s (lt_s (lt_s (lt_s (lt_s (lt_s (lt_s (lt_s (lt_s (lt_s (lt_s (lt_s (lt_s (lt_s (lt_s (lt_s (lt_s (lt_s (lt_s (lt_s mth_all_100 ma100) ma101) ma102) ma103) ma104) ma105) ma106) ma107) ma108) ma109) ma110) ma111) ma112) ma113) ma114) ma115) ma116) ma117) ma118) ma119) ma120) ma121) ma122) ma123) ma124)
theorem mth_all_150 : ∀ y, y < 150 → MthAt y := (lt_s (lt_s (lt_s (lt_s (lt_s (lt_s (lt_s (lt_s (lt_s (lt_s (lt_s (lt_s (lt_s (lt_s (lt_s (lt_s (lt_s (lt_s (lt_s (lt_s (lt_s (lt_s (lt_s (lt_s (lt_s mth_all_125 ma125) ma126) ma127) ma128) ma129) ma130) ma131) ma132) ma133) ma134) ma135) ma136) ma137) ma138) ma139) ma140) ma141) ma142) ma143) ma144) ma145) ma146) ma147) ma148) ma149)
theorem mth_all_175 : ∀ y, y < 175 → MthAt y := (lt_s (lt_s (lt_s (lt_s (lt_s (lt_s (lt_s (lt_s (lt_s (lt_s (lt_s (lt_s (lt_s (lt_s (lt_s (lt_s (lt_s (lt_s (lt_s (lt_s (lt_s (lt_s (lt_s (lt_s (lt_s mth_all_150 ma150) ma151) ma152) ma153) ma154) ma155) ma156) ma157) ma158) ma159) ma160) ma161) ma162) ma163) ma164) ma165) ma166) ma167) ma168) ma169) ma170) ma171) ma172) ma173) ma174)
theorem mth_all_200 : ∀ y, y < 200 → MthAt y := (lt_s (lt_s (lt_s (lt_s (lt_s (lt_s (lt_s (lt_s (lt_s (lt_s (lt_s (lt_s (lt_s (lt_s (lt_s (lt_s (lt_s (lt_s (lt_s (lt_s (lt_s (lt_s (lt_s (lt_s (lt_s mth_all_175 ma175) ma176) ma177) ma178) ma179) ma180) ma181) ma182) ma183) ma184) ma185) ma186) ma187) ma188) ma189) ma190) ma191) ma192) ma193) ma194) ma195) ma196) ma197) ma198) ma199)
theorem mth_all_225 : ∀ y, y < 225 → MthAt y := (lt_s (lt_s (lt_s (lt_s (lt_s (lt_s (lt_s (lt_s (lt_s (lt_s (lt_s (lt_s (lt_s (lt_s (lt_s (lt_s (lt_s (lt_s (lt_s (lt_s (lt_s (lt_s (lt_s (lt_s (lt_s mth_all_200 ma200) ma201) ma202) ma203) ma204) ma205) ma206) ma207) ma208) ma209) ma210) ma211) ma212) ma213) ma214) ma215) ma216) ma217) ma218) ma219) ma220) ma221) ma222) ma223) ma224)
theorem mth_all_250 : ∀ y, y < 250 → MthAt y := (lt_s (lt_s (lt_s (lt_s (lt_s (lt_s (lt_s (lt_s (lt_s (lt_s (lt_s (lt_s (lt_s (lt_s (lt_s (lt_s (lt_s (lt_s (lt_s (lt_s (lt_s (lt_s (lt_s (lt_s (lt_s mth_all_225 ma225) ma226) ma227) ma228) ma229) ma230) ma231) ma232) ma233) ma234) ma235) ma236) ma237) ma238) ma239) ma240) ma241) ma242) ma243) ma244) ma245) ma246) ma247) ma248) ma249)
theorem mth_all_275 : ∀ y, y < 275 → MthAt y := (lt_s (lt_s (lt_s (lt_s (lt_s (lt_s (lt_s (lt_s (lt_s (lt_s (lt_s (lt_s (lt_s (lt_s (lt_s (lt_s (lt_s (lt_s (lt_s (lt_s (lt_s (lt_s (lt_s (lt_s (lt_s mth_all_250 ma250) ma251) ma252) ma253) ma254) ma255) ma256) ma257) ma258) ma259) ma260) ma261) ma262) ma263) ma264) ma265) ma266) ma267) ma268) ma269) ma270) ma271) ma272) ma273) ma274)
theorem mth_all_290 : ∀ y, y < 290 → MthAt y := (lt_s (lt_s (lt_s (lt_s (lt_s (lt_s (lt_s (lt_s (lt_s (lt_s (lt_s (lt_s (lt_s (lt_s (lt_s mth_all_275 ma275) ma276) ma277) ma278) ma279) ma280) ma281) ma282) ma283) ma284) ma285) ma286) ma287) ma288) ma289)
set_option maxRecDepth 100000 in
theorem mth_ok : MthOK := fun y h => mth_all_290 y (by have e : NL = 290 := rfl; omega)
