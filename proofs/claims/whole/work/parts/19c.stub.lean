theorem ck0 : rokM "OutwardDoors" true 2 (Option.none : Option Jvm.ClassFile.FieldType) prog_1_method_1_code bd0 ht0 = true := sorry
theorem ck1 : rokM "OutwardDoors$Tape" true 1 (Option.none : Option Jvm.ClassFile.FieldType) prog_11_method_1_code bd1 ht1 = true := sorry
theorem ck2 : rokM "OutwardDoors$CastleReader" true 2 (Option.none : Option Jvm.ClassFile.FieldType) prog_2_method_1_code bd2 ht2 = true := sorry
theorem ck3 : rokM "OutwardDoors$Plan" true 1 (Option.none : Option Jvm.ClassFile.FieldType) prog_5_method_1_code bd3 ht3 = true := sorry
theorem ck4 : rokM "java/util/Arrays" false 4 (Option.none : Option Jvm.ClassFile.FieldType) prog_21_method_103_code bd4 ht4 = true := sorry
theorem ck5 : rokM "OutwardDoors$Rule" true 1 (Option.none : Option Jvm.ClassFile.FieldType) prog_7_method_1_code bd5 ht5 = true := sorry
theorem ck6 : rokM "OutwardDoors$RuleReader" true 3 (Option.none : Option Jvm.ClassFile.FieldType) prog_8_method_1_code bd6 ht6 = true := sorry
theorem ck7 : rokM "OutwardDoors$Rule" false 1 (Option.none : Option Jvm.ClassFile.FieldType) prog_7_method_4_code bd7 ht7 = true := sorry
theorem ck8 : rokM "OutwardDoors$Rule" false 1 (Option.none : Option Jvm.ClassFile.FieldType) prog_7_method_3_code bd8 ht8 = true := sorry
theorem ck9 : rokM "OutwardDoors$Rule" false 3 (Option.none : Option Jvm.ClassFile.FieldType) prog_7_method_5_code bd9 ht9 = true := sorry
theorem ck10 : rokM "OutwardDoors$Rule" false 2 (Option.none : Option Jvm.ClassFile.FieldType) prog_7_method_6_code bd10 ht10 = true := sorry
theorem ck11 : rokM "OutwardDoors$Scene" true 2 (Option.none : Option Jvm.ClassFile.FieldType) prog_9_method_1_code bd11 ht11 = true := sorry
theorem ck12 : rokM "OutwardDoors$World" true 1 (Option.none : Option Jvm.ClassFile.FieldType) prog_12_method_1_code bd12 ht12 = true := sorry
theorem ck13 : rokM "OutwardDoors$Mover" true 1 (Option.none : Option Jvm.ClassFile.FieldType) prog_3_method_1_code bd13 ht13 = true := sorry
theorem ck14 : rokM "OutwardDoors$Search" true 2 (Option.none : Option Jvm.ClassFile.FieldType) prog_10_method_1_code bd14 ht14 = true := sorry
theorem ck15 : rokM "OutwardDoors$Passings" true 2 (Option.none : Option Jvm.ClassFile.FieldType) prog_4_method_1_code bd15 ht15 = true := sorry
theorem ck16 : rokM "OutwardDoors$Pricer" true 2 (Option.none : Option Jvm.ClassFile.FieldType) prog_6_method_1_code bd16 ht16 = true := sorry
theorem ck17 : rokM "OutwardDoors" false 6 (Option.some Jvm.ClassFile.FieldType.int) prog_1_method_2_code bd17 ht17 = true := sorry
theorem ck18 : rokM "OutwardDoors$Tape" false 3 (Option.none : Option Jvm.ClassFile.FieldType) prog_11_method_2_code bd18 ht18 = true := sorry
theorem ck19 : rokM "OutwardDoors" false 2 (Option.some Jvm.ClassFile.FieldType.int) prog_1_method_3_code bd19 ht19 = true := sorry
theorem ck20 : rokM "OutwardDoors" false 2 (Option.some Jvm.ClassFile.FieldType.int) prog_1_method_4_code bd20 ht20 = true := sorry
theorem ck21 : rokM "OutwardDoors$CastleReader" false 3 (Option.none : Option Jvm.ClassFile.FieldType) prog_2_method_3_code bd21 ht21 = true := sorry
theorem ck22 : rokM "OutwardDoors$Plan" false 2 (Option.none : Option Jvm.ClassFile.FieldType) prog_5_method_2_code bd22 ht22 = true := sorry
theorem ck23 : rokM "OutwardDoors$Tape" false 1 (Option.none : Option Jvm.ClassFile.FieldType) prog_11_method_3_code bd23 ht23 = true := sorry
theorem ck24 : rokM "OutwardDoors$Tape" false 2 (Option.none : Option Jvm.ClassFile.FieldType) prog_11_method_4_code bd24 ht24 = true := sorry
theorem ck25 : rokM "OutwardDoors$Tape" false 3 (Option.some Jvm.ClassFile.FieldType.boolean) prog_11_method_5_code bd25 ht25 = true := sorry
theorem ck26 : rokM "OutwardDoors$Tape" false 5 (Option.some Jvm.ClassFile.FieldType.int) prog_11_method_6_code bd26 ht26 = true := sorry
theorem ck27 : rokM "OutwardDoors$Tape" false 5 (Option.some Jvm.ClassFile.FieldType.int) prog_11_method_7_code bd27 ht27 = true := sorry
theorem ck28 : rokM "OutwardDoors$Tape" false 3 (Option.none : Option Jvm.ClassFile.FieldType) prog_11_method_8_code bd28 ht28 = true := sorry
theorem ck29 : rokM "OutwardDoors$CastleReader" false 2 (Option.none : Option Jvm.ClassFile.FieldType) prog_2_method_4_code bd29 ht29 = true := sorry
theorem ck30 : rokM "OutwardDoors$CastleReader" false 1 (Option.some Jvm.ClassFile.FieldType.int) prog_2_method_5_code bd30 ht30 = true := sorry
theorem ck31 : rokM "OutwardDoors$Tape" false 3 (Option.some Jvm.ClassFile.FieldType.boolean) prog_11_method_9_code bd31 ht31 = true := sorry
theorem ck32 : rokM "OutwardDoors$Tape" false 2 (Option.none : Option Jvm.ClassFile.FieldType) prog_11_method_11_code bd32 ht32 = true := sorry
theorem ck33 : rokM "OutwardDoors$CastleReader" false 2 (Option.some Jvm.ClassFile.FieldType.boolean) prog_2_method_6_code bd33 ht33 = true := sorry
theorem ck34 : rokM "OutwardDoors$Plan" false 1 (Option.some Jvm.ClassFile.FieldType.boolean) prog_5_method_3_code bd34 ht34 = true := sorry
theorem ck35 : rokM "OutwardDoors$Tape" false 5 (Option.some Jvm.ClassFile.FieldType.int) prog_11_method_12_code bd35 ht35 = true := sorry
theorem ck36 : rokM "OutwardDoors$CastleReader" false 3 (Option.none : Option Jvm.ClassFile.FieldType) prog_2_method_7_code bd36 ht36 = true := sorry
theorem ck37 : rokM "OutwardDoors$CastleReader" false 3 (Option.none : Option Jvm.ClassFile.FieldType) prog_2_method_9_code bd37 ht37 = true := sorry
theorem ck38 : rokM "OutwardDoors$CastleReader" false 4 (Option.none : Option Jvm.ClassFile.FieldType) prog_2_method_10_code bd38 ht38 = true := sorry
theorem ck39 : rokM "OutwardDoors$Plan" false 4 (Option.none : Option Jvm.ClassFile.FieldType) prog_5_method_6_code bd39 ht39 = true := sorry
theorem ck40 : rokM "OutwardDoors$CastleReader" false 4 (Option.none : Option Jvm.ClassFile.FieldType) prog_2_method_8_code bd40 ht40 = true := sorry
theorem ck41 : rokM "OutwardDoors$Plan" false 4 (Option.some Jvm.ClassFile.FieldType.int) prog_5_method_4_code bd41 ht41 = true := sorry
theorem ck42 : rokM "OutwardDoors$Plan" false 3 (Option.some Jvm.ClassFile.FieldType.int) prog_5_method_12_code bd42 ht42 = true := sorry
theorem ck43 : rokM "OutwardDoors$Plan" false 4 (Option.none : Option Jvm.ClassFile.FieldType) prog_5_method_5_code bd43 ht43 = true := sorry
theorem ck44 : rokM "OutwardDoors$Tape" false 1 (Option.some Jvm.ClassFile.FieldType.boolean) prog_11_method_13_code bd44 ht44 = true := sorry
theorem ck45 : rokM "OutwardDoors$Tape" false 2 (Option.some Jvm.ClassFile.FieldType.boolean) prog_11_method_10_code bd45 ht45 = true := sorry
theorem ck46 : rokM "OutwardDoors$Plan" false 4 (Option.none : Option Jvm.ClassFile.FieldType) prog_5_method_7_code bd46 ht46 = true := sorry
theorem ck47 : rokM "OutwardDoors$Plan" false 4 (Option.none : Option Jvm.ClassFile.FieldType) prog_5_method_8_code bd47 ht47 = true := sorry
theorem ck48 : rokM "java/util/Arrays" false 5 (Option.none : Option Jvm.ClassFile.FieldType) prog_21_method_104_code bd48 ht48 = true := sorry
theorem ck49 : rokM "java/util/Arrays" false 3 (Option.none : Option Jvm.ClassFile.FieldType) prog_21_method_30_code bd49 ht49 = true := sorry
theorem ck50 : rokM "OutwardDoors$Plan" false 6 (Option.none : Option Jvm.ClassFile.FieldType) prog_5_method_9_code bd50 ht50 = true := sorry
theorem ck51 : rokM "OutwardDoors$Plan" false 5 (Option.some Jvm.ClassFile.FieldType.boolean) prog_5_method_14_code bd51 ht51 = true := sorry
theorem ck52 : rokM "OutwardDoors$Plan" false 3 (Option.some Jvm.ClassFile.FieldType.boolean) prog_5_method_13_code bd52 ht52 = true := sorry
theorem ck53 : rokM "OutwardDoors$Plan" false 3 (Option.some Jvm.ClassFile.FieldType.int) prog_5_method_10_code bd53 ht53 = true := sorry
theorem ck54 : rokM "OutwardDoors$Plan" false 4 (Option.some Jvm.ClassFile.FieldType.int) prog_5_method_16_code bd54 ht54 = true := sorry
theorem ck55 : rokM "OutwardDoors$CastleReader" false 2 (Option.some (Jvm.ClassFile.FieldType.object "OutwardDoors$Plan")) prog_2_method_2_code bd55 ht55 = true := sorry
theorem ck56 : rokM "OutwardDoors$World" false 2 (Option.none : Option Jvm.ClassFile.FieldType) prog_12_method_2_code bd56 ht56 = true := sorry
theorem ck57 : rokM "OutwardDoors" false 2 (Option.some Jvm.ClassFile.FieldType.int) prog_1_method_5_code bd57 ht57 = true := sorry
theorem ck58 : rokM "OutwardDoors$RuleReader" false 5 (Option.none : Option Jvm.ClassFile.FieldType) prog_8_method_2_code bd58 ht58 = true := sorry
theorem ck59 : rokM "OutwardDoors$RuleReader" false 1 (Option.some Jvm.ClassFile.FieldType.boolean) prog_8_method_3_code bd59 ht59 = true := sorry
theorem ck60 : rokM "OutwardDoors$RuleReader" false 7 (Option.none : Option Jvm.ClassFile.FieldType) prog_8_method_9_code bd60 ht60 = true := sorry
theorem ck61 : rokM "OutwardDoors$RuleReader" false 4 (Option.none : Option Jvm.ClassFile.FieldType) prog_8_method_12_code bd61 ht61 = true := sorry
theorem ck62 : rokM "OutwardDoors$Rule" false 1 (Option.some (Jvm.ClassFile.FieldType.object "java/lang/String")) prog_7_method_2_code bd62 ht62 = true := sorry
theorem ck63 : rokM "OutwardDoors$RuleReader" false 2 (Option.none : Option Jvm.ClassFile.FieldType) prog_8_method_10_code bd63 ht63 = true := sorry
theorem ck64 : rokM "OutwardDoors$RuleReader" false 2 (Option.some Jvm.ClassFile.FieldType.int) prog_8_method_13_code bd64 ht64 = true := sorry
theorem ck65 : rokM "OutwardDoors$RuleReader" false 5 (Option.some Jvm.ClassFile.FieldType.int) prog_8_method_14_code bd65 ht65 = true := sorry
theorem ck66 : rokM "OutwardDoors$RuleReader" false 3 (Option.some Jvm.ClassFile.FieldType.boolean) prog_8_method_11_code bd66 ht66 = true := sorry
theorem ck67 : rokM "OutwardDoors$RuleReader" false 3 (Option.some Jvm.ClassFile.FieldType.boolean) prog_8_method_4_code bd67 ht67 = true := sorry
theorem ck68 : rokM "OutwardDoors$RuleReader" false 6 (Option.none : Option Jvm.ClassFile.FieldType) prog_8_method_5_code bd68 ht68 = true := sorry
theorem ck69 : rokM "OutwardDoors$RuleReader" false 5 (Option.none : Option Jvm.ClassFile.FieldType) prog_8_method_6_code bd69 ht69 = true := sorry
theorem ck70 : rokM "OutwardDoors$RuleReader" false 1 (Option.none : Option Jvm.ClassFile.FieldType) prog_8_method_7_code bd70 ht70 = true := sorry
theorem ck71 : rokM "OutwardDoors$RuleReader" false 2 (Option.some Jvm.ClassFile.FieldType.int) prog_8_method_15_code bd71 ht71 = true := sorry
theorem ck72 : rokM "OutwardDoors$RuleReader" false 2 (Option.some Jvm.ClassFile.FieldType.boolean) prog_8_method_8_code bd72 ht72 = true := sorry
theorem ck73 : rokM "OutwardDoors" false 3 (Option.some Jvm.ClassFile.FieldType.int) prog_1_method_6_code bd73 ht73 = true := sorry
theorem ck74 : rokM "OutwardDoors" false 5 (Option.some Jvm.ClassFile.FieldType.int) prog_1_method_7_code bd74 ht74 = true := sorry
theorem ck75 : rokM "OutwardDoors" false 2 (Option.some Jvm.ClassFile.FieldType.boolean) prog_1_method_32_code bd75 ht75 = true := sorry
theorem ck76 : rokM "OutwardDoors" false 1 (Option.some Jvm.ClassFile.FieldType.int) prog_1_method_36_code bd76 ht76 = true := sorry
theorem ck77 : rokM "OutwardDoors$Plan" false 3 (Option.some Jvm.ClassFile.FieldType.int) prog_5_method_11_code bd77 ht77 = true := sorry
theorem ck78 : rokM "OutwardDoors$Plan" false 7 (Option.some Jvm.ClassFile.FieldType.int) prog_5_method_17_code bd78 ht78 = true := sorry
theorem ck79 : rokM "OutwardDoors" false 3 (Option.some Jvm.ClassFile.FieldType.int) prog_1_method_8_code bd79 ht79 = true := sorry
theorem ck80 : rokM "OutwardDoors" false 2 (Option.some Jvm.ClassFile.FieldType.boolean) prog_1_method_33_code bd80 ht80 = true := sorry
theorem ck81 : rokM "OutwardDoors$World" false 5 (Option.some Jvm.ClassFile.FieldType.int) prog_12_method_6_code bd81 ht81 = true := sorry
theorem ck82 : rokM "OutwardDoors$Plan" false 6 (Option.some Jvm.ClassFile.FieldType.int) prog_5_method_18_code bd82 ht82 = true := sorry
theorem ck83 : rokM "OutwardDoors" false 4 (Option.some Jvm.ClassFile.FieldType.int) prog_1_method_9_code bd83 ht83 = true := sorry
theorem ck84 : rokM "OutwardDoors" false 2 (Option.some Jvm.ClassFile.FieldType.boolean) prog_1_method_34_code bd84 ht84 = true := sorry
theorem ck85 : rokM "OutwardDoors" false 1 (Option.some Jvm.ClassFile.FieldType.int) prog_1_method_10_code bd85 ht85 = true := sorry
theorem ck86 : rokM "OutwardDoors" false 1 (Option.some Jvm.ClassFile.FieldType.boolean) prog_1_method_31_code bd86 ht86 = true := sorry
theorem ck87 : rokM "OutwardDoors" false 1 (Option.none : Option Jvm.ClassFile.FieldType) prog_1_method_38_code bd87 ht87 = true := sorry
theorem ck88 : rokM "OutwardDoors$World" false 2 (Option.none : Option Jvm.ClassFile.FieldType) prog_12_method_3_code bd88 ht88 = true := sorry
theorem ck89 : rokM "java/lang/Math" false 2 (Option.some Jvm.ClassFile.FieldType.int) prog_16_method_69_code bd89 ht89 = true := sorry
theorem ck90 : rokM "OutwardDoors" false 2 (Option.some (Jvm.ClassFile.FieldType.object "OutwardDoors$Rule")) prog_1_method_37_code bd90 ht90 = true := sorry
theorem ck91 : rokM "OutwardDoors$Mover" false 6 (Option.none : Option Jvm.ClassFile.FieldType) prog_3_method_2_code bd91 ht91 = true := sorry
theorem ck92 : rokM "OutwardDoors$Mover" false 9 (Option.none : Option Jvm.ClassFile.FieldType) prog_3_method_3_code bd92 ht92 = true := sorry
theorem ck93 : rokM "OutwardDoors$Rule" false 6 (Option.some Jvm.ClassFile.FieldType.long) prog_7_method_7_code bd93 ht93 = true := sorry
theorem ck94 : rokM "OutwardDoors$Rule" false 8 (Option.some Jvm.ClassFile.FieldType.long) prog_7_method_8_code bd94 ht94 = true := sorry
theorem ck95 : rokM "OutwardDoors$Rule" false 2 (Option.some Jvm.ClassFile.FieldType.long) prog_7_method_9_code bd95 ht95 = true := sorry
theorem ck96 : rokM "OutwardDoors$Rule" false 5 (Option.some Jvm.ClassFile.FieldType.long) prog_7_method_10_code bd96 ht96 = true := sorry
theorem ck97 : rokM "OutwardDoors$Mover" false 7 (Option.some Jvm.ClassFile.FieldType.int) prog_3_method_4_code bd97 ht97 = true := sorry
theorem ck98 : rokM "OutwardDoors$Plan" false 3 (Option.some Jvm.ClassFile.FieldType.int) prog_5_method_15_code bd98 ht98 = true := sorry
theorem ck99 : rokM "OutwardDoors" false 1 (Option.some Jvm.ClassFile.FieldType.int) prog_1_method_46_code bd99 ht99 = true := sorry
theorem ck100 : rokM "java/lang/Integer" false 1 (Option.some Jvm.ClassFile.FieldType.int) prog_15_method_49_code bd100 ht100 = true := sorry
theorem ck101 : rokM "OutwardDoors$Mover" false 5 (Option.none : Option Jvm.ClassFile.FieldType) prog_3_method_5_code bd101 ht101 = true := sorry
theorem ck102 : rokM "OutwardDoors$Mover" false 4 (Option.none : Option Jvm.ClassFile.FieldType) prog_3_method_6_code bd102 ht102 = true := sorry
theorem ck103 : rokM "OutwardDoors$World" false 3 (Option.none : Option Jvm.ClassFile.FieldType) prog_12_method_4_code bd103 ht103 = true := sorry
theorem ck104 : rokM "OutwardDoors$Mover" false 5 (Option.none : Option Jvm.ClassFile.FieldType) prog_3_method_7_code bd104 ht104 = true := sorry
theorem ck105 : rokM "OutwardDoors$Mover" false 4 (Option.some Jvm.ClassFile.FieldType.int) prog_3_method_8_code bd105 ht105 = true := sorry
theorem ck106 : rokM "OutwardDoors$World" false 4 (Option.none : Option Jvm.ClassFile.FieldType) prog_12_method_5_code bd106 ht106 = true := sorry
theorem ck107 : rokM "OutwardDoors" false 4 (Option.some Jvm.ClassFile.FieldType.int) prog_1_method_11_code bd107 ht107 = true := sorry
theorem ck108 : rokM "OutwardDoors" false 6 (Option.some Jvm.ClassFile.FieldType.boolean) prog_1_method_12_code bd108 ht108 = true := sorry
theorem ck109 : rokM "OutwardDoors" false 1 (Option.some Jvm.ClassFile.FieldType.int) prog_1_method_13_code bd109 ht109 = true := sorry
theorem ck110 : rokM "OutwardDoors" false 5 (Option.some Jvm.ClassFile.FieldType.int) prog_1_method_14_code bd110 ht110 = true := sorry
theorem ck111 : rokM "OutwardDoors" false 4 (Option.some Jvm.ClassFile.FieldType.int) prog_1_method_15_code bd111 ht111 = true := sorry
theorem ck112 : rokM "OutwardDoors" false 2 (Option.some Jvm.ClassFile.FieldType.int) prog_1_method_16_code bd112 ht112 = true := sorry
theorem ck113 : rokM "OutwardDoors" false 2 (Option.some Jvm.ClassFile.FieldType.boolean) prog_1_method_35_code bd113 ht113 = true := sorry
theorem ck114 : rokM "OutwardDoors" false 7 (Option.none : Option Jvm.ClassFile.FieldType) prog_1_method_39_code bd114 ht114 = true := sorry
theorem ck115 : rokM "OutwardDoors$Search" false 6 (Option.none : Option Jvm.ClassFile.FieldType) prog_10_method_2_code bd115 ht115 = true := sorry
theorem ck116 : rokM "OutwardDoors$Passings" false 5 (Option.none : Option Jvm.ClassFile.FieldType) prog_4_method_2_code bd116 ht116 = true := sorry
theorem ck117 : rokM "OutwardDoors$Passings" false 1 (Option.some Jvm.ClassFile.FieldType.int) prog_4_method_4_code bd117 ht117 = true := sorry
theorem ck118 : rokM "OutwardDoors$World" false 4 (Option.some Jvm.ClassFile.FieldType.int) prog_12_method_8_code bd118 ht118 = true := sorry
theorem ck119 : rokM "OutwardDoors$Search" false 2 (Option.none : Option Jvm.ClassFile.FieldType) prog_10_method_3_code bd119 ht119 = true := sorry
theorem ck120 : rokM "OutwardDoors$Search" false 3 (Option.none : Option Jvm.ClassFile.FieldType) prog_10_method_4_code bd120 ht120 = true := sorry
theorem ck121 : rokM "OutwardDoors$Search" false 4 (Option.none : Option Jvm.ClassFile.FieldType) prog_10_method_6_code bd121 ht121 = true := sorry
theorem ck122 : rokM "OutwardDoors$Passings" false 5 (Option.none : Option Jvm.ClassFile.FieldType) prog_4_method_11_code bd122 ht122 = true := sorry
theorem ck123 : rokM "OutwardDoors$Passings" false 2 (Option.some Jvm.ClassFile.FieldType.int) prog_4_method_5_code bd123 ht123 = true := sorry
theorem ck124 : rokM "OutwardDoors$Passings" false 6 (Option.none : Option Jvm.ClassFile.FieldType) prog_4_method_12_code bd124 ht124 = true := sorry
theorem ck125 : rokM "OutwardDoors$Passings" false 3 (Option.some Jvm.ClassFile.FieldType.int) prog_4_method_6_code bd125 ht125 = true := sorry
theorem ck126 : rokM "OutwardDoors$Passings" false 3 (Option.some Jvm.ClassFile.FieldType.int) prog_4_method_7_code bd126 ht126 = true := sorry
theorem ck127 : rokM "OutwardDoors$Pricer" false 5 (Option.none : Option Jvm.ClassFile.FieldType) prog_6_method_5_code bd127 ht127 = true := sorry
theorem ck128 : rokM "OutwardDoors$Passings" false 1 (Option.some Jvm.ClassFile.FieldType.int) prog_4_method_8_code bd128 ht128 = true := sorry
theorem ck129 : rokM "OutwardDoors$Pricer" false 4 (Option.none : Option Jvm.ClassFile.FieldType) prog_6_method_6_code bd129 ht129 = true := sorry
theorem ck130 : rokM "OutwardDoors$Pricer" false 2 (Option.none : Option Jvm.ClassFile.FieldType) prog_6_method_7_code bd130 ht130 = true := sorry
theorem ck131 : rokM "OutwardDoors$Search" false 4 (Option.none : Option Jvm.ClassFile.FieldType) prog_10_method_5_code bd131 ht131 = true := sorry
theorem ck132 : rokM "OutwardDoors$Passings" false 3 (Option.none : Option Jvm.ClassFile.FieldType) prog_4_method_13_code bd132 ht132 = true := sorry
theorem ck133 : rokM "OutwardDoors$Search" false 4 (Option.some Jvm.ClassFile.FieldType.int) prog_10_method_9_code bd133 ht133 = true := sorry
theorem ck134 : rokM "OutwardDoors" false 5 (Option.some Jvm.ClassFile.FieldType.int) prog_1_method_17_code bd134 ht134 = true := sorry
theorem ck135 : rokM "OutwardDoors$Search" false 2 (Option.some Jvm.ClassFile.FieldType.int) prog_10_method_11_code bd135 ht135 = true := sorry
theorem ck136 : rokM "OutwardDoors$Search" false 4 (Option.some Jvm.ClassFile.FieldType.int) prog_10_method_10_code bd136 ht136 = true := sorry
theorem ck137 : rokM "OutwardDoors$Passings" false 1 (Option.some Jvm.ClassFile.FieldType.int) prog_4_method_9_code bd137 ht137 = true := sorry
theorem ck138 : rokM "OutwardDoors$Passings" false 1 (Option.some Jvm.ClassFile.FieldType.int) prog_4_method_10_code bd138 ht138 = true := sorry
theorem ck139 : rokM "OutwardDoors" false 7 (Option.some Jvm.ClassFile.FieldType.int) prog_1_method_18_code bd139 ht139 = true := sorry
theorem ck140 : rokM "OutwardDoors$Search" false 2 (Option.none : Option Jvm.ClassFile.FieldType) prog_10_method_7_code bd140 ht140 = true := sorry
theorem ck141 : rokM "OutwardDoors$Search" false 5 (Option.some Jvm.ClassFile.FieldType.boolean) prog_10_method_8_code bd141 ht141 = true := sorry
theorem ck142 : rokM "OutwardDoors" false 6 (Option.some Jvm.ClassFile.FieldType.int) prog_1_method_19_code bd142 ht142 = true := sorry
theorem ck143 : rokM "OutwardDoors$Search" false 1 (Option.some Jvm.ClassFile.FieldType.int) prog_10_method_12_code bd143 ht143 = true := sorry
theorem ck144 : rokM "OutwardDoors" false 2 (Option.some Jvm.ClassFile.FieldType.int) prog_1_method_20_code bd144 ht144 = true := sorry
theorem ck145 : rokM "OutwardDoors$Pricer" false 3 (Option.none : Option Jvm.ClassFile.FieldType) prog_6_method_2_code bd145 ht145 = true := sorry
theorem ck146 : rokM "OutwardDoors$Pricer" false 4 (Option.some Jvm.ClassFile.FieldType.int) prog_6_method_3_code bd146 ht146 = true := sorry
theorem ck147 : rokM "OutwardDoors$Pricer" false 6 (Option.some Jvm.ClassFile.FieldType.boolean) prog_6_method_4_code bd147 ht147 = true := sorry
theorem ck148 : rokM "OutwardDoors" false 3 (Option.some Jvm.ClassFile.FieldType.int) prog_1_method_21_code bd148 ht148 = true := sorry
theorem ck149 : rokM "OutwardDoors" false 7 (Option.some Jvm.ClassFile.FieldType.int) prog_1_method_22_code bd149 ht149 = true := sorry
theorem ck150 : rokM "OutwardDoors" false 6 (Option.some Jvm.ClassFile.FieldType.boolean) prog_1_method_40_code bd150 ht150 = true := sorry
theorem ck151 : rokM "OutwardDoors" false 4 (Option.some Jvm.ClassFile.FieldType.int) prog_1_method_23_code bd151 ht151 = true := sorry
theorem ck152 : rokM "OutwardDoors$Scene" false 4 (Option.none : Option Jvm.ClassFile.FieldType) prog_9_method_3_code bd152 ht152 = true := sorry
theorem ck153 : rokM "OutwardDoors" false 5 (Option.some Jvm.ClassFile.FieldType.int) prog_1_method_24_code bd153 ht153 = true := sorry
theorem ck154 : rokM "OutwardDoors" false 5 (Option.some Jvm.ClassFile.FieldType.boolean) prog_1_method_41_code bd154 ht154 = true := sorry
theorem ck155 : rokM "OutwardDoors$Scene" false 3 (Option.some Jvm.ClassFile.FieldType.int) prog_9_method_4_code bd155 ht155 = true := sorry
theorem ck156 : rokM "java/lang/Math" false 2 (Option.some Jvm.ClassFile.FieldType.int) prog_16_method_65_code bd156 ht156 = true := sorry
theorem ck157 : rokM "OutwardDoors$Scene" false 4 (Option.some Jvm.ClassFile.FieldType.boolean) prog_9_method_5_code bd157 ht157 = true := sorry
theorem ck158 : rokM "OutwardDoors" false 7 (Option.some Jvm.ClassFile.FieldType.int) prog_1_method_25_code bd158 ht158 = true := sorry
theorem ck159 : rokM "OutwardDoors" false 4 (Option.some Jvm.ClassFile.FieldType.int) prog_1_method_42_code bd159 ht159 = true := sorry
theorem ck160 : rokM "OutwardDoors" false 4 (Option.none : Option Jvm.ClassFile.FieldType) prog_1_method_43_code bd160 ht160 = true := sorry
theorem ck161 : rokM "OutwardDoors" false 4 (Option.some Jvm.ClassFile.FieldType.int) prog_1_method_44_code bd161 ht161 = true := sorry
theorem ck162 : rokM "OutwardDoors" false 3 (Option.some Jvm.ClassFile.FieldType.int) prog_1_method_26_code bd162 ht162 = true := sorry
theorem ck163 : rokM "OutwardDoors" false 11 (Option.some Jvm.ClassFile.FieldType.int) prog_1_method_27_code bd163 ht163 = true := sorry
theorem ck164 : rokM "OutwardDoors" false 1 (Option.some Jvm.ClassFile.FieldType.int) prog_1_method_45_code bd164 ht164 = true := sorry
theorem ck165 : rokM "OutwardDoors" false 2 (Option.some Jvm.ClassFile.FieldType.int) prog_1_method_28_code bd165 ht165 = true := sorry
theorem ck166 : rokM "OutwardDoors$World" false 4 (Option.some Jvm.ClassFile.FieldType.int) prog_12_method_7_code bd166 ht166 = true := sorry
theorem ck167 : rokM "OutwardDoors" false 2 (Option.some Jvm.ClassFile.FieldType.int) prog_1_method_29_code bd167 ht167 = true := sorry
theorem ck168 : rokM "OutwardDoors$Scene" false 2 (Option.none : Option Jvm.ClassFile.FieldType) prog_9_method_2_code bd168 ht168 = true := sorry
theorem ck169 : rokM "OutwardDoors" false 2 (Option.some Jvm.ClassFile.FieldType.int) prog_1_method_30_code bd169 ht169 = true := sorry
theorem ck170 : rokM "OutwardDoorsModel" true 1 (Option.none : Option Jvm.ClassFile.FieldType) prog_14_method_1_code bd170 ht170 = true := sorry
theorem ck171 : rokM "OutwardDoorsModel" false 6 (Option.some Jvm.ClassFile.FieldType.int) prog_14_method_5_code bd171 ht171 = true := sorry
theorem ck172 : rokM "OutwardDoorsModel" false 3 (Option.none : Option Jvm.ClassFile.FieldType) prog_14_method_4_code bd172 ht172 = true := sorry
theorem ck173 : rokM "OutwardDoorsModel" false 2 (Option.some Jvm.ClassFile.FieldType.int) prog_14_method_6_code bd173 ht173 = true := sorry
theorem ck174 : rokM "OutwardDoorsModel" false 1 (Option.some Jvm.ClassFile.FieldType.int) prog_14_method_40_code bd174 ht174 = true := sorry
theorem ck175 : rokM "OutwardDoorsModel" false 2 (Option.some Jvm.ClassFile.FieldType.boolean) prog_14_method_39_code bd175 ht175 = true := sorry
theorem ck176 : rokM "OutwardDoorsModel" false 3 (Option.some Jvm.ClassFile.FieldType.boolean) prog_14_method_38_code bd176 ht176 = true := sorry
theorem ck177 : rokM "OutwardDoorsModel" false 1 (Option.some Jvm.ClassFile.FieldType.int) prog_14_method_8_code bd177 ht177 = true := sorry
theorem ck178 : rokM "OutwardDoorsModel" false 1 (Option.some Jvm.ClassFile.FieldType.boolean) prog_14_method_37_code bd178 ht178 = true := sorry
theorem ck179 : rokM "OutwardDoorsModel" false 6 (Option.some Jvm.ClassFile.FieldType.boolean) prog_14_method_11_code bd179 ht179 = true := sorry
theorem ck180 : rokM "OutwardDoorsModel" false 2 (Option.some Jvm.ClassFile.FieldType.boolean) prog_14_method_10_code bd180 ht180 = true := sorry
theorem ck181 : rokM "OutwardDoorsModel" false 3 (Option.some Jvm.ClassFile.FieldType.boolean) prog_14_method_7_code bd181 ht181 = true := sorry
theorem ck182 : rokM "OutwardDoorsModel" false 2 (Option.some Jvm.ClassFile.FieldType.boolean) prog_14_method_36_code bd182 ht182 = true := sorry
theorem ck183 : rokM "OutwardDoorsModel" false 2 (Option.some Jvm.ClassFile.FieldType.boolean) prog_14_method_31_code bd183 ht183 = true := sorry
theorem ck184 : rokM "OutwardDoorsModel" false 1 (Option.none : Option Jvm.ClassFile.FieldType) prog_14_method_12_code bd184 ht184 = true := sorry
theorem ck185 : rokM "OutwardDoorsModel" false 4 (Option.some Jvm.ClassFile.FieldType.boolean) prog_14_method_30_code bd185 ht185 = true := sorry
theorem ck186 : rokM "OutwardDoorsModel" false 5 (Option.some Jvm.ClassFile.FieldType.boolean) prog_14_method_14_code bd186 ht186 = true := sorry
theorem ck187 : rokM "OutwardDoorsModel" false 2 (Option.some Jvm.ClassFile.FieldType.boolean) prog_14_method_9_code bd187 ht187 = true := sorry
theorem ck188 : rokM "OutwardDoorsModel" false 6 (Option.some Jvm.ClassFile.FieldType.boolean) prog_14_method_2_code bd188 ht188 = true := sorry
theorem ck189 : rokM "OutwardDoorsModel" false 1 (Option.some Jvm.ClassFile.FieldType.boolean) prog_14_method_32_code bd189 ht189 = true := sorry
theorem ck190 : rokM "OutwardDoorsModel" false 9 (Option.some Jvm.ClassFile.FieldType.boolean) prog_14_method_33_code bd190 ht190 = true := sorry
theorem ck191 : rokM "OutwardDoorsModel" false 2 (Option.some Jvm.ClassFile.FieldType.boolean) prog_14_method_34_code bd191 ht191 = true := sorry
theorem ck192 : rokM "OutwardDoorsModel" false 3 (Option.some Jvm.ClassFile.FieldType.boolean) prog_14_method_35_code bd192 ht192 = true := sorry
theorem ck193 : rokM "OutwardDoorsModel" false 2 (Option.some Jvm.ClassFile.FieldType.boolean) prog_14_method_29_code bd193 ht193 = true := sorry
theorem ck194 : rokM "OutwardDoorsModel" false 2 (Option.some Jvm.ClassFile.FieldType.boolean) prog_14_method_23_code bd194 ht194 = true := sorry
theorem ck195 : rokM "OutwardDoorsModel" false 2 (Option.some Jvm.ClassFile.FieldType.boolean) prog_14_method_22_code bd195 ht195 = true := sorry
theorem ck196 : rokM "OutwardDoorsModel" false 3 (Option.some Jvm.ClassFile.FieldType.boolean) prog_14_method_21_code bd196 ht196 = true := sorry
theorem ck197 : rokM "OutwardDoorsModel" false 2 (Option.some Jvm.ClassFile.FieldType.boolean) prog_14_method_17_code bd197 ht197 = true := sorry
theorem ck198 : rokM "OutwardDoorsModel" false 3 (Option.none : Option Jvm.ClassFile.FieldType) prog_14_method_16_code bd198 ht198 = true := sorry
theorem ck199 : rokM "OutwardDoorsModel" false 1 (Option.some Jvm.ClassFile.FieldType.int) prog_14_method_15_code bd199 ht199 = true := sorry
theorem ck200 : rokM "OutwardDoorsModel" false 3 (Option.some Jvm.ClassFile.FieldType.boolean) prog_14_method_13_code bd200 ht200 = true := sorry
theorem ck201 : rokM "OutwardDoorsModel" false 3 (Option.some Jvm.ClassFile.FieldType.boolean) prog_14_method_28_code bd201 ht201 = true := sorry
theorem ck202 : rokM "OutwardDoorsModel" false 3 (Option.some Jvm.ClassFile.FieldType.boolean) prog_14_method_25_code bd202 ht202 = true := sorry
theorem ck203 : rokM "OutwardDoorsModel" false 2 (Option.some Jvm.ClassFile.FieldType.boolean) prog_14_method_18_code bd203 ht203 = true := sorry
theorem ck204 : rokM "OutwardDoorsModel" false 5 (Option.some Jvm.ClassFile.FieldType.boolean) prog_14_method_24_code bd204 ht204 = true := sorry
theorem ck205 : rokM "OutwardDoorsModel" false 1 (Option.none : Option Jvm.ClassFile.FieldType) prog_14_method_27_code bd205 ht205 = true := sorry
theorem ck206 : rokM "OutwardDoorsModel" false 2 (Option.none : Option Jvm.ClassFile.FieldType) prog_14_method_20_code bd206 ht206 = true := sorry
theorem ck207 : rokM "OutwardDoorsModel" false 1 (Option.some Jvm.ClassFile.FieldType.int) prog_14_method_19_code bd207 ht207 = true := sorry
theorem ck208 : rokM "OutwardDoorsModel" false 2 (Option.some Jvm.ClassFile.FieldType.boolean) prog_14_method_26_code bd208 ht208 = true := sorry
theorem ck209 : rokM "OutwardDoorsModel" false 2 (Option.some Jvm.ClassFile.FieldType.int) prog_14_method_42_code bd209 ht209 = true := sorry
theorem ck210 : rokM "OutwardDoorsModel" false 5 (Option.none : Option Jvm.ClassFile.FieldType) prog_14_method_41_code bd210 ht210 = true := sorry
theorem ck211 : rokM "OutwardDoorsModel" false 3 (Option.some Jvm.ClassFile.FieldType.int) prog_14_method_52_code bd211 ht211 = true := sorry
theorem ck212 : rokM "OutwardDoorsModel" false 3 (Option.some Jvm.ClassFile.FieldType.int) prog_14_method_64_code bd212 ht212 = true := sorry
theorem ck213 : rokM "OutwardDoorsModel" false 2 (Option.some Jvm.ClassFile.FieldType.boolean) prog_14_method_43_code bd213 ht213 = true := sorry
theorem ck214 : rokM "OutwardDoorsModel" false 3 (Option.some Jvm.ClassFile.FieldType.int) prog_14_method_65_code bd214 ht214 = true := sorry
theorem ck215 : rokM "OutwardDoorsModel" false 2 (Option.some Jvm.ClassFile.FieldType.boolean) prog_14_method_49_code bd215 ht215 = true := sorry
theorem ck216 : rokM "OutwardDoorsModel" false 2 (Option.some Jvm.ClassFile.FieldType.int) prog_14_method_59_code bd216 ht216 = true := sorry
theorem ck217 : rokM "OutwardDoorsModel" false 3 (Option.some Jvm.ClassFile.FieldType.int) prog_14_method_58_code bd217 ht217 = true := sorry
theorem ck218 : rokM "OutwardDoorsModel" false 6 (Option.none : Option Jvm.ClassFile.FieldType) prog_14_method_57_code bd218 ht218 = true := sorry
theorem ck219 : rokM "OutwardDoorsModel" false 2 (Option.some Jvm.ClassFile.FieldType.boolean) prog_14_method_56_code bd219 ht219 = true := sorry
theorem ck220 : rokM "OutwardDoorsModel" false 2 (Option.some Jvm.ClassFile.FieldType.int) prog_14_method_53_code bd220 ht220 = true := sorry
theorem ck221 : rokM "OutwardDoorsModel" false 2 (Option.some Jvm.ClassFile.FieldType.int) prog_14_method_54_code bd221 ht221 = true := sorry
theorem ck222 : rokM "OutwardDoorsModel" false 2 (Option.some Jvm.ClassFile.FieldType.boolean) prog_14_method_55_code bd222 ht222 = true := sorry
theorem ck223 : rokM "OutwardDoorsModel" false 7 (Option.some Jvm.ClassFile.FieldType.int) prog_14_method_60_code bd223 ht223 = true := sorry
theorem ck224 : rokM "OutwardDoorsModel" false 3 (Option.some Jvm.ClassFile.FieldType.int) prog_14_method_66_code bd224 ht224 = true := sorry
theorem ck225 : rokM "OutwardDoorsModel" false 2 (Option.some Jvm.ClassFile.FieldType.boolean) prog_14_method_50_code bd225 ht225 = true := sorry
theorem ck226 : rokM "OutwardDoorsModel" false 4 (Option.some Jvm.ClassFile.FieldType.int) prog_14_method_62_code bd226 ht226 = true := sorry
theorem ck227 : rokM "OutwardDoorsModel" false 5 (Option.some Jvm.ClassFile.FieldType.int) prog_14_method_63_code bd227 ht227 = true := sorry
theorem ck228 : rokM "OutwardDoorsModel" false 2 (Option.some Jvm.ClassFile.FieldType.boolean) prog_14_method_3_code bd228 ht228 = true := sorry
theorem ck229 : rokM "OutwardDoorsModel" false 3 (Option.some Jvm.ClassFile.FieldType.int) prog_14_method_67_code bd229 ht229 = true := sorry
theorem ck230 : rokM "OutwardDoorsModel" false 2 (Option.some Jvm.ClassFile.FieldType.boolean) prog_14_method_51_code bd230 ht230 = true := sorry
theorem ck231 : rokM "OutwardDoorsModel" false 2 (Option.some Jvm.ClassFile.FieldType.int) prog_14_method_79_code bd231 ht231 = true := sorry
theorem ck232 : rokM "OutwardDoorsModel" false 1 (Option.some Jvm.ClassFile.FieldType.int) prog_14_method_80_code bd232 ht232 = true := sorry
theorem ck233 : rokM "OutwardDoorsModel" false 1 (Option.some Jvm.ClassFile.FieldType.boolean) prog_14_method_48_code bd233 ht233 = true := sorry
theorem ck234 : rokM "OutwardDoorsModel" false 2 (Option.none : Option Jvm.ClassFile.FieldType) prog_14_method_78_code bd234 ht234 = true := sorry
theorem ck235 : rokM "OutwardDoorsModel" false 4 (Option.some Jvm.ClassFile.FieldType.int) prog_14_method_77_code bd235 ht235 = true := sorry
theorem ck236 : rokM "OutwardDoorsModel" false 6 (Option.none : Option Jvm.ClassFile.FieldType) prog_14_method_73_code bd236 ht236 = true := sorry
theorem ck237 : rokM "OutwardDoorsModel" false 3 (Option.none : Option Jvm.ClassFile.FieldType) prog_14_method_70_code bd237 ht237 = true := sorry
theorem ck238 : rokM "OutwardDoorsModel" false 3 (Option.some Jvm.ClassFile.FieldType.int) prog_14_method_69_code bd238 ht238 = true := sorry
theorem ck239 : rokM "OutwardDoorsModel" false 5 (Option.some Jvm.ClassFile.FieldType.int) prog_14_method_68_code bd239 ht239 = true := sorry
theorem ck240 : rokM "OutwardDoorsModel" false 4 (Option.some Jvm.ClassFile.FieldType.long) prog_14_method_71_code bd240 ht240 = true := sorry
theorem ck241 : rokM "OutwardDoorsModel" false 11 (Option.some Jvm.ClassFile.FieldType.long) prog_14_method_47_code bd241 ht241 = true := sorry
theorem ck242 : rokM "OutwardDoorsModel" false 3 (Option.none : Option Jvm.ClassFile.FieldType) prog_14_method_44_code bd242 ht242 = true := sorry
theorem ck243 : rokM "OutwardDoorsModel" false 1 (Option.some Jvm.ClassFile.FieldType.long) prog_14_method_45_code bd243 ht243 = true := sorry
theorem ck244 : rokM "OutwardDoorsModel" false 5 (Option.some Jvm.ClassFile.FieldType.long) prog_14_method_46_code bd244 ht244 = true := sorry
theorem ck245 : rokM "OutwardDoorsModel" false 3 (Option.some Jvm.ClassFile.FieldType.int) prog_14_method_72_code bd245 ht245 = true := sorry
theorem ck246 : rokM "OutwardDoorsModel" false 4 (Option.some Jvm.ClassFile.FieldType.int) prog_14_method_61_code bd246 ht246 = true := sorry
theorem ck247 : rokM "OutwardDoorsModel" false 4 (Option.none : Option Jvm.ClassFile.FieldType) prog_14_method_74_code bd247 ht247 = true := sorry
theorem ck248 : rokM "OutwardDoorsModel" false 6 (Option.some Jvm.ClassFile.FieldType.int) prog_14_method_76_code bd248 ht248 = true := sorry
theorem ck249 : rokM "OutwardDoorsModel" false 5 (Option.none : Option Jvm.ClassFile.FieldType) prog_14_method_75_code bd249 ht249 = true := sorry
theorem ck250 : rokM "OutwardDoorsModel" false 4 (Option.some Jvm.ClassFile.FieldType.int) prog_14_method_81_code bd250 ht250 = true := sorry
theorem ck251 : rokM "OutwardDoorsModel" false 4 (Option.some Jvm.ClassFile.FieldType.boolean) prog_14_method_82_code bd251 ht251 = true := sorry
theorem ck252 : rokM "OutwardDoorsModel" false 4 (Option.some Jvm.ClassFile.FieldType.int) prog_14_method_85_code bd252 ht252 = true := sorry
theorem ck253 : rokM "OutwardDoorsModel" false 2 (Option.none : Option Jvm.ClassFile.FieldType) prog_14_method_83_code bd253 ht253 = true := sorry
theorem ck254 : rokM "OutwardDoorsModel" false 2 (Option.none : Option Jvm.ClassFile.FieldType) prog_14_method_84_code bd254 ht254 = true := sorry
theorem ck255 : rokM "OutwardDoorsModel" false 4 (Option.some Jvm.ClassFile.FieldType.int) prog_14_method_86_code bd255 ht255 = true := sorry
theorem ck256 : rokM "OutwardDoorsModel" false 3 (Option.some Jvm.ClassFile.FieldType.int) prog_14_method_98_code bd256 ht256 = true := sorry
theorem ck257 : rokM "OutwardDoorsModel" false 2 (Option.some Jvm.ClassFile.FieldType.boolean) prog_14_method_97_code bd257 ht257 = true := sorry
theorem ck258 : rokM "OutwardDoorsModel" false 5 (Option.none : Option Jvm.ClassFile.FieldType) prog_14_method_96_code bd258 ht258 = true := sorry
theorem ck259 : rokM "OutwardDoorsModel" false 3 (Option.none : Option Jvm.ClassFile.FieldType) prog_14_method_95_code bd259 ht259 = true := sorry
theorem ck260 : rokM "OutwardDoorsModel" false 4 (Option.some Jvm.ClassFile.FieldType.int) prog_14_method_87_code bd260 ht260 = true := sorry
theorem ck261 : rokM "OutwardDoorsModel" false 4 (Option.some Jvm.ClassFile.FieldType.boolean) prog_14_method_91_code bd261 ht261 = true := sorry
theorem ck262 : rokM "OutwardDoorsModel" false 3 (Option.some Jvm.ClassFile.FieldType.int) prog_14_method_88_code bd262 ht262 = true := sorry
theorem ck263 : rokM "OutwardDoorsModel" false 3 (Option.none : Option Jvm.ClassFile.FieldType) prog_14_method_92_code bd263 ht263 = true := sorry
theorem ck264 : rokM "OutwardDoorsModel" false 3 (Option.none : Option Jvm.ClassFile.FieldType) prog_14_method_94_code bd264 ht264 = true := sorry
theorem ck265 : rokM "OutwardDoorsModel" false 8 (Option.none : Option Jvm.ClassFile.FieldType) prog_14_method_93_code bd265 ht265 = true := sorry
theorem ck266 : rokM "OutwardDoorsModel" false 4 (Option.some Jvm.ClassFile.FieldType.int) prog_14_method_89_code bd266 ht266 = true := sorry
theorem ck267 : rokM "OutwardDoorsModel" false 3 (Option.some Jvm.ClassFile.FieldType.int) prog_14_method_90_code bd267 ht267 = true := sorry
theorem ck268 : rokM "OutwardDoorsModel" false 6 (Option.some Jvm.ClassFile.FieldType.int) prog_14_method_100_code bd268 ht268 = true := sorry
theorem ck269 : rokM "OutwardDoorsModel" false 7 (Option.some Jvm.ClassFile.FieldType.int) prog_14_method_99_code bd269 ht269 = true := sorry
theorem ck270 : rokM "OutwardDoorsModel" false 6 (Option.some Jvm.ClassFile.FieldType.int) prog_14_method_101_code bd270 ht270 = true := sorry
theorem ck271 : rokM "OutwardDoorsModel" false 7 (Option.some Jvm.ClassFile.FieldType.int) prog_14_method_102_code bd271 ht271 = true := sorry
theorem ck272 : rokM "OutwardDoorsModel" false 5 (Option.some Jvm.ClassFile.FieldType.int) prog_14_method_104_code bd272 ht272 = true := sorry
theorem ck273 : rokM "OutwardDoorsModel" false 10 (Option.some Jvm.ClassFile.FieldType.boolean) prog_14_method_103_code bd273 ht273 = true := sorry
theorem ck274 : rokM "OutwardDoorsModel" false 4 (Option.some Jvm.ClassFile.FieldType.int) prog_14_method_105_code bd274 ht274 = true := sorry
theorem ck275 : rokM "OutwardDoorsModel" false 7 (Option.some Jvm.ClassFile.FieldType.int) prog_14_method_107_code bd275 ht275 = true := sorry
theorem ck276 : rokM "OutwardDoorsModel" false 3 (Option.some Jvm.ClassFile.FieldType.boolean) prog_14_method_106_code bd276 ht276 = true := sorry
theorem ck277 : rokM "OutwardDoorsModel" false 5 (Option.some Jvm.ClassFile.FieldType.int) prog_14_method_108_code bd277 ht277 = true := sorry
theorem ck278 : rokM "OutwardDoorsModel" false 5 (Option.some Jvm.ClassFile.FieldType.int) prog_14_method_112_code bd278 ht278 = true := sorry
theorem ck279 : rokM "OutwardDoorsModel" false 6 (Option.none : Option Jvm.ClassFile.FieldType) prog_14_method_111_code bd279 ht279 = true := sorry
theorem ck280 : rokM "OutwardDoorsModel" false 3 (Option.none : Option Jvm.ClassFile.FieldType) prog_14_method_109_code bd280 ht280 = true := sorry
theorem ck281 : rokM "OutwardDoorsModel" false 3 (Option.some Jvm.ClassFile.FieldType.boolean) prog_14_method_110_code bd281 ht281 = true := sorry
theorem ck282 : rokM "OutwardDoorsModel" false 7 (Option.some Jvm.ClassFile.FieldType.int) prog_14_method_114_code bd282 ht282 = true := sorry
theorem ck283 : rokM "OutwardDoorsModel" false 6 (Option.some Jvm.ClassFile.FieldType.int) prog_14_method_113_code bd283 ht283 = true := sorry
theorem ck284 : rokM "OutwardDoorsModel" false 3 (Option.some Jvm.ClassFile.FieldType.int) prog_14_method_115_code bd284 ht284 = true := sorry
theorem ck285 : rokM "OutwardDoorsModel" false 8 (Option.some Jvm.ClassFile.FieldType.int) prog_14_method_119_code bd285 ht285 = true := sorry
theorem ck286 : rokM "OutwardDoorsModel" false 4 (Option.some Jvm.ClassFile.FieldType.int) prog_14_method_118_code bd286 ht286 = true := sorry
theorem ck287 : rokM "OutwardDoorsModel" false 2 (Option.none : Option Jvm.ClassFile.FieldType) prog_14_method_117_code bd287 ht287 = true := sorry
theorem ck288 : rokM "OutwardDoorsModel" false 2 (Option.some Jvm.ClassFile.FieldType.int) prog_14_method_116_code bd288 ht288 = true := sorry
theorem ck289 : rokM "OutwardDoorsModel" false 2 (Option.some Jvm.ClassFile.FieldType.int) prog_14_method_120_code bd289 ht289 = true := sorry
theorem ck290 : rokM "OutwardDoorsModel" false 3 (Option.some Jvm.ClassFile.FieldType.int) prog_14_method_121_code bd290 ht290 = true := sorry
theorem ck291 : rokM "OutwardDoorsModel" false 3 (Option.some Jvm.ClassFile.FieldType.int) prog_14_method_122_code bd291 ht291 = true := sorry
theorem ck292 : rokM "OutwardDoorsLaw" false 4 (some .boolean) code bd292 ht292 = true := sorry
