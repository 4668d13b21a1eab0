set_option maxRecDepth 100000 in
theorem ck0 : rokM "OutwardDoors" true 2 (Option.none : Option Jvm.ClassFile.FieldType) prog_1_method_1_code bd0 ht0 = true := by decide +kernel
set_option maxRecDepth 100000 in
theorem ck1 : rokM "OutwardDoors$Tape" true 1 (Option.none : Option Jvm.ClassFile.FieldType) prog_11_method_1_code bd1 ht1 = true := by decide +kernel
set_option maxRecDepth 100000 in
theorem ck2 : rokM "OutwardDoors$CastleReader" true 2 (Option.none : Option Jvm.ClassFile.FieldType) prog_2_method_1_code bd2 ht2 = true := by decide +kernel
set_option maxRecDepth 100000 in
theorem ck3 : rokM "OutwardDoors$Plan" true 1 (Option.none : Option Jvm.ClassFile.FieldType) prog_5_method_1_code bd3 ht3 = true := by decide +kernel
set_option maxRecDepth 100000 in
theorem ck4 : rokM "java/util/Arrays" false 4 (Option.none : Option Jvm.ClassFile.FieldType) prog_21_method_103_code bd4 ht4 = true := by decide +kernel
set_option maxRecDepth 100000 in
theorem ck5 : rokM "OutwardDoors$Rule" true 1 (Option.none : Option Jvm.ClassFile.FieldType) prog_7_method_1_code bd5 ht5 = true := by decide +kernel
set_option maxRecDepth 100000 in
theorem ck6 : rokM "OutwardDoors$RuleReader" true 3 (Option.none : Option Jvm.ClassFile.FieldType) prog_8_method_1_code bd6 ht6 = true := by decide +kernel
set_option maxRecDepth 100000 in
theorem ck7 : rokM "OutwardDoors$Rule" false 1 (Option.none : Option Jvm.ClassFile.FieldType) prog_7_method_4_code bd7 ht7 = true := by decide +kernel
set_option maxRecDepth 100000 in
theorem ck8 : rokM "OutwardDoors$Rule" false 1 (Option.none : Option Jvm.ClassFile.FieldType) prog_7_method_3_code bd8 ht8 = true := by decide +kernel
set_option maxRecDepth 100000 in
theorem ck9 : rokM "OutwardDoors$Rule" false 3 (Option.none : Option Jvm.ClassFile.FieldType) prog_7_method_5_code bd9 ht9 = true := by decide +kernel
set_option maxRecDepth 100000 in
theorem ck10 : rokM "OutwardDoors$Rule" false 2 (Option.none : Option Jvm.ClassFile.FieldType) prog_7_method_6_code bd10 ht10 = true := by decide +kernel
set_option maxRecDepth 100000 in
theorem ck11 : rokM "OutwardDoors$Scene" true 2 (Option.none : Option Jvm.ClassFile.FieldType) prog_9_method_1_code bd11 ht11 = true := by decide +kernel
set_option maxRecDepth 100000 in
theorem ck12 : rokM "OutwardDoors$World" true 1 (Option.none : Option Jvm.ClassFile.FieldType) prog_12_method_1_code bd12 ht12 = true := by decide +kernel
set_option maxRecDepth 100000 in
theorem ck13 : rokM "OutwardDoors$Mover" true 1 (Option.none : Option Jvm.ClassFile.FieldType) prog_3_method_1_code bd13 ht13 = true := by decide +kernel
set_option maxRecDepth 100000 in
theorem ck14 : rokM "OutwardDoors$Search" true 2 (Option.none : Option Jvm.ClassFile.FieldType) prog_10_method_1_code bd14 ht14 = true := by decide +kernel
set_option maxRecDepth 100000 in
theorem ck15 : rokM "OutwardDoors$Passings" true 2 (Option.none : Option Jvm.ClassFile.FieldType) prog_4_method_1_code bd15 ht15 = true := by decide +kernel
set_option maxRecDepth 100000 in
theorem ck16 : rokM "OutwardDoors$Pricer" true 2 (Option.none : Option Jvm.ClassFile.FieldType) prog_6_method_1_code bd16 ht16 = true := by decide +kernel
set_option maxRecDepth 100000 in
theorem ck17 : rokM "OutwardDoors" false 6 (Option.some Jvm.ClassFile.FieldType.int) prog_1_method_2_code bd17 ht17 = true := by decide +kernel
set_option maxRecDepth 100000 in
theorem ck18 : rokM "OutwardDoors$Tape" false 3 (Option.none : Option Jvm.ClassFile.FieldType) prog_11_method_2_code bd18 ht18 = true := by decide +kernel
set_option maxRecDepth 100000 in
theorem ck19 : rokM "OutwardDoors" false 2 (Option.some Jvm.ClassFile.FieldType.int) prog_1_method_3_code bd19 ht19 = true := by decide +kernel
set_option maxRecDepth 100000 in
theorem ck20 : rokM "OutwardDoors" false 2 (Option.some Jvm.ClassFile.FieldType.int) prog_1_method_4_code bd20 ht20 = true := by decide +kernel
set_option maxRecDepth 100000 in
theorem ck21 : rokM "OutwardDoors$CastleReader" false 3 (Option.none : Option Jvm.ClassFile.FieldType) prog_2_method_3_code bd21 ht21 = true := by decide +kernel
set_option maxRecDepth 100000 in
theorem ck22 : rokM "OutwardDoors$Plan" false 2 (Option.none : Option Jvm.ClassFile.FieldType) prog_5_method_2_code bd22 ht22 = true := by decide +kernel
set_option maxRecDepth 100000 in
theorem ck23 : rokM "OutwardDoors$Tape" false 1 (Option.none : Option Jvm.ClassFile.FieldType) prog_11_method_3_code bd23 ht23 = true := by decide +kernel
set_option maxRecDepth 100000 in
theorem ck24 : rokM "OutwardDoors$Tape" false 2 (Option.none : Option Jvm.ClassFile.FieldType) prog_11_method_4_code bd24 ht24 = true := by decide +kernel
set_option maxRecDepth 100000 in
theorem ck25 : rokM "OutwardDoors$Tape" false 3 (Option.some Jvm.ClassFile.FieldType.boolean) prog_11_method_5_code bd25 ht25 = true := by decide +kernel
set_option maxRecDepth 100000 in
theorem ck26 : rokM "OutwardDoors$Tape" false 5 (Option.some Jvm.ClassFile.FieldType.int) prog_11_method_6_code bd26 ht26 = true := by decide +kernel
set_option maxRecDepth 100000 in
theorem ck27 : rokM "OutwardDoors$Tape" false 5 (Option.some Jvm.ClassFile.FieldType.int) prog_11_method_7_code bd27 ht27 = true := by decide +kernel
set_option maxRecDepth 100000 in
theorem ck28 : rokM "OutwardDoors$Tape" false 3 (Option.none : Option Jvm.ClassFile.FieldType) prog_11_method_8_code bd28 ht28 = true := by decide +kernel
set_option maxRecDepth 100000 in
theorem ck29 : rokM "OutwardDoors$CastleReader" false 2 (Option.none : Option Jvm.ClassFile.FieldType) prog_2_method_4_code bd29 ht29 = true := by decide +kernel
set_option maxRecDepth 100000 in
theorem ck30 : rokM "OutwardDoors$CastleReader" false 1 (Option.some Jvm.ClassFile.FieldType.int) prog_2_method_5_code bd30 ht30 = true := by decide +kernel
set_option maxRecDepth 100000 in
theorem ck31 : rokM "OutwardDoors$Tape" false 3 (Option.some Jvm.ClassFile.FieldType.boolean) prog_11_method_9_code bd31 ht31 = true := by decide +kernel
set_option maxRecDepth 100000 in
theorem ck32 : rokM "OutwardDoors$Tape" false 2 (Option.none : Option Jvm.ClassFile.FieldType) prog_11_method_11_code bd32 ht32 = true := by decide +kernel
set_option maxRecDepth 100000 in
theorem ck33 : rokM "OutwardDoors$CastleReader" false 2 (Option.some Jvm.ClassFile.FieldType.boolean) prog_2_method_6_code bd33 ht33 = true := by decide +kernel
set_option maxRecDepth 100000 in
theorem ck34 : rokM "OutwardDoors$Plan" false 1 (Option.some Jvm.ClassFile.FieldType.boolean) prog_5_method_3_code bd34 ht34 = true := by decide +kernel
set_option maxRecDepth 100000 in
theorem ck35 : rokM "OutwardDoors$Tape" false 5 (Option.some Jvm.ClassFile.FieldType.int) prog_11_method_12_code bd35 ht35 = true := by decide +kernel
set_option maxRecDepth 100000 in
theorem ck36 : rokM "OutwardDoors$CastleReader" false 3 (Option.none : Option Jvm.ClassFile.FieldType) prog_2_method_7_code bd36 ht36 = true := by decide +kernel
set_option maxRecDepth 100000 in
theorem ck37 : rokM "OutwardDoors$CastleReader" false 3 (Option.none : Option Jvm.ClassFile.FieldType) prog_2_method_9_code bd37 ht37 = true := by decide +kernel
set_option maxRecDepth 100000 in
theorem ck38 : rokM "OutwardDoors$CastleReader" false 4 (Option.none : Option Jvm.ClassFile.FieldType) prog_2_method_10_code bd38 ht38 = true := by decide +kernel
set_option maxRecDepth 100000 in
theorem ck39 : rokM "OutwardDoors$Plan" false 4 (Option.none : Option Jvm.ClassFile.FieldType) prog_5_method_6_code bd39 ht39 = true := by decide +kernel
set_option maxRecDepth 100000 in
theorem ck40 : rokM "OutwardDoors$CastleReader" false 4 (Option.none : Option Jvm.ClassFile.FieldType) prog_2_method_8_code bd40 ht40 = true := by decide +kernel
set_option maxRecDepth 100000 in
theorem ck41 : rokM "OutwardDoors$Plan" false 4 (Option.some Jvm.ClassFile.FieldType.int) prog_5_method_4_code bd41 ht41 = true := by decide +kernel
set_option maxRecDepth 100000 in
theorem ck42 : rokM "OutwardDoors$Plan" false 3 (Option.some Jvm.ClassFile.FieldType.int) prog_5_method_12_code bd42 ht42 = true := by decide +kernel
set_option maxRecDepth 100000 in
theorem ck43 : rokM "OutwardDoors$Plan" false 4 (Option.none : Option Jvm.ClassFile.FieldType) prog_5_method_5_code bd43 ht43 = true := by decide +kernel
set_option maxRecDepth 100000 in
theorem ck44 : rokM "OutwardDoors$Tape" false 1 (Option.some Jvm.ClassFile.FieldType.boolean) prog_11_method_13_code bd44 ht44 = true := by decide +kernel
set_option maxRecDepth 100000 in
theorem ck45 : rokM "OutwardDoors$Tape" false 2 (Option.some Jvm.ClassFile.FieldType.boolean) prog_11_method_10_code bd45 ht45 = true := by decide +kernel
set_option maxRecDepth 100000 in
theorem ck46 : rokM "OutwardDoors$Plan" false 4 (Option.none : Option Jvm.ClassFile.FieldType) prog_5_method_7_code bd46 ht46 = true := by decide +kernel
set_option maxRecDepth 100000 in
theorem ck47 : rokM "OutwardDoors$Plan" false 4 (Option.none : Option Jvm.ClassFile.FieldType) prog_5_method_8_code bd47 ht47 = true := by decide +kernel
set_option maxRecDepth 100000 in
theorem ck48 : rokM "java/util/Arrays" false 5 (Option.none : Option Jvm.ClassFile.FieldType) prog_21_method_104_code bd48 ht48 = true := by decide +kernel
set_option maxRecDepth 100000 in
theorem ck49 : rokM "java/util/Arrays" false 3 (Option.none : Option Jvm.ClassFile.FieldType) prog_21_method_30_code bd49 ht49 = true := by decide +kernel
set_option maxRecDepth 100000 in
theorem ck50 : rokM "OutwardDoors$Plan" false 6 (Option.none : Option Jvm.ClassFile.FieldType) prog_5_method_9_code bd50 ht50 = true := by decide +kernel
set_option maxRecDepth 100000 in
theorem ck51 : rokM "OutwardDoors$Plan" false 5 (Option.some Jvm.ClassFile.FieldType.boolean) prog_5_method_14_code bd51 ht51 = true := by decide +kernel
set_option maxRecDepth 100000 in
theorem ck52 : rokM "OutwardDoors$Plan" false 3 (Option.some Jvm.ClassFile.FieldType.boolean) prog_5_method_13_code bd52 ht52 = true := by decide +kernel
set_option maxRecDepth 100000 in
theorem ck53 : rokM "OutwardDoors$Plan" false 3 (Option.some Jvm.ClassFile.FieldType.int) prog_5_method_10_code bd53 ht53 = true := by decide +kernel
set_option maxRecDepth 100000 in
theorem ck54 : rokM "OutwardDoors$Plan" false 4 (Option.some Jvm.ClassFile.FieldType.int) prog_5_method_16_code bd54 ht54 = true := by decide +kernel
set_option maxRecDepth 100000 in
theorem ck55 : rokM "OutwardDoors$CastleReader" false 2 (Option.some (Jvm.ClassFile.FieldType.object "OutwardDoors$Plan")) prog_2_method_2_code bd55 ht55 = true := by decide +kernel
set_option maxRecDepth 100000 in
theorem ck56 : rokM "OutwardDoors$World" false 2 (Option.none : Option Jvm.ClassFile.FieldType) prog_12_method_2_code bd56 ht56 = true := by decide +kernel
set_option maxRecDepth 100000 in
theorem ck57 : rokM "OutwardDoors" false 2 (Option.some Jvm.ClassFile.FieldType.int) prog_1_method_5_code bd57 ht57 = true := by decide +kernel
set_option maxRecDepth 100000 in
theorem ck58 : rokM "OutwardDoors$RuleReader" false 5 (Option.none : Option Jvm.ClassFile.FieldType) prog_8_method_2_code bd58 ht58 = true := by decide +kernel
set_option maxRecDepth 100000 in
theorem ck59 : rokM "OutwardDoors$RuleReader" false 1 (Option.some Jvm.ClassFile.FieldType.boolean) prog_8_method_3_code bd59 ht59 = true := by decide +kernel
set_option maxRecDepth 100000 in
theorem ck60 : rokM "OutwardDoors$RuleReader" false 7 (Option.none : Option Jvm.ClassFile.FieldType) prog_8_method_9_code bd60 ht60 = true := by decide +kernel
set_option maxRecDepth 100000 in
theorem ck61 : rokM "OutwardDoors$RuleReader" false 4 (Option.none : Option Jvm.ClassFile.FieldType) prog_8_method_12_code bd61 ht61 = true := by decide +kernel
set_option maxRecDepth 100000 in
theorem ck62 : rokM "OutwardDoors$Rule" false 1 (Option.some (Jvm.ClassFile.FieldType.object "java/lang/String")) prog_7_method_2_code bd62 ht62 = true := by decide +kernel
set_option maxRecDepth 100000 in
theorem ck63 : rokM "OutwardDoors$RuleReader" false 2 (Option.none : Option Jvm.ClassFile.FieldType) prog_8_method_10_code bd63 ht63 = true := by decide +kernel
set_option maxRecDepth 100000 in
theorem ck64 : rokM "OutwardDoors$RuleReader" false 2 (Option.some Jvm.ClassFile.FieldType.int) prog_8_method_13_code bd64 ht64 = true := by decide +kernel
set_option maxRecDepth 100000 in
theorem ck65 : rokM "OutwardDoors$RuleReader" false 5 (Option.some Jvm.ClassFile.FieldType.int) prog_8_method_14_code bd65 ht65 = true := by decide +kernel
set_option maxRecDepth 100000 in
theorem ck66 : rokM "OutwardDoors$RuleReader" false 3 (Option.some Jvm.ClassFile.FieldType.boolean) prog_8_method_11_code bd66 ht66 = true := by decide +kernel
set_option maxRecDepth 100000 in
theorem ck67 : rokM "OutwardDoors$RuleReader" false 3 (Option.some Jvm.ClassFile.FieldType.boolean) prog_8_method_4_code bd67 ht67 = true := by decide +kernel
set_option maxRecDepth 100000 in
theorem ck68 : rokM "OutwardDoors$RuleReader" false 6 (Option.none : Option Jvm.ClassFile.FieldType) prog_8_method_5_code bd68 ht68 = true := by decide +kernel
set_option maxRecDepth 100000 in
theorem ck69 : rokM "OutwardDoors$RuleReader" false 5 (Option.none : Option Jvm.ClassFile.FieldType) prog_8_method_6_code bd69 ht69 = true := by decide +kernel
set_option maxRecDepth 100000 in
theorem ck70 : rokM "OutwardDoors$RuleReader" false 1 (Option.none : Option Jvm.ClassFile.FieldType) prog_8_method_7_code bd70 ht70 = true := by decide +kernel
set_option maxRecDepth 100000 in
theorem ck71 : rokM "OutwardDoors$RuleReader" false 2 (Option.some Jvm.ClassFile.FieldType.int) prog_8_method_15_code bd71 ht71 = true := by decide +kernel
set_option maxRecDepth 100000 in
theorem ck72 : rokM "OutwardDoors$RuleReader" false 2 (Option.some Jvm.ClassFile.FieldType.boolean) prog_8_method_8_code bd72 ht72 = true := by decide +kernel
set_option maxRecDepth 100000 in
theorem ck73 : rokM "OutwardDoors" false 3 (Option.some Jvm.ClassFile.FieldType.int) prog_1_method_6_code bd73 ht73 = true := by decide +kernel
set_option maxRecDepth 100000 in
theorem ck74 : rokM "OutwardDoors" false 5 (Option.some Jvm.ClassFile.FieldType.int) prog_1_method_7_code bd74 ht74 = true := by decide +kernel
