set_option maxRecDepth 100000 in
theorem ck75 : rokM "OutwardDoors" false 2 (Option.some Jvm.ClassFile.FieldType.boolean) prog_1_method_32_code bd75 ht75 = true := by decide +kernel
set_option maxRecDepth 100000 in
theorem ck76 : rokM "OutwardDoors" false 1 (Option.some Jvm.ClassFile.FieldType.int) prog_1_method_36_code bd76 ht76 = true := by decide +kernel
set_option maxRecDepth 100000 in
theorem ck77 : rokM "OutwardDoors$Plan" false 3 (Option.some Jvm.ClassFile.FieldType.int) prog_5_method_11_code bd77 ht77 = true := by decide +kernel
set_option maxRecDepth 100000 in
theorem ck78 : rokM "OutwardDoors$Plan" false 7 (Option.some Jvm.ClassFile.FieldType.int) prog_5_method_17_code bd78 ht78 = true := by decide +kernel
set_option maxRecDepth 100000 in
theorem ck79 : rokM "OutwardDoors" false 3 (Option.some Jvm.ClassFile.FieldType.int) prog_1_method_8_code bd79 ht79 = true := by decide +kernel
set_option maxRecDepth 100000 in
theorem ck80 : rokM "OutwardDoors" false 2 (Option.some Jvm.ClassFile.FieldType.boolean) prog_1_method_33_code bd80 ht80 = true := by decide +kernel
set_option maxRecDepth 100000 in
theorem ck81 : rokM "OutwardDoors$World" false 5 (Option.some Jvm.ClassFile.FieldType.int) prog_12_method_6_code bd81 ht81 = true := by decide +kernel
set_option maxRecDepth 100000 in
theorem ck82 : rokM "OutwardDoors$Plan" false 6 (Option.some Jvm.ClassFile.FieldType.int) prog_5_method_18_code bd82 ht82 = true := by decide +kernel
set_option maxRecDepth 100000 in
theorem ck83 : rokM "OutwardDoors" false 4 (Option.some Jvm.ClassFile.FieldType.int) prog_1_method_9_code bd83 ht83 = true := by decide +kernel
set_option maxRecDepth 100000 in
theorem ck84 : rokM "OutwardDoors" false 2 (Option.some Jvm.ClassFile.FieldType.boolean) prog_1_method_34_code bd84 ht84 = true := by decide +kernel
set_option maxRecDepth 100000 in
theorem ck85 : rokM "OutwardDoors" false 1 (Option.some Jvm.ClassFile.FieldType.int) prog_1_method_10_code bd85 ht85 = true := by decide +kernel
set_option maxRecDepth 100000 in
theorem ck86 : rokM "OutwardDoors" false 1 (Option.some Jvm.ClassFile.FieldType.boolean) prog_1_method_31_code bd86 ht86 = true := by decide +kernel
set_option maxRecDepth 100000 in
theorem ck87 : rokM "OutwardDoors" false 1 (Option.none : Option Jvm.ClassFile.FieldType) prog_1_method_38_code bd87 ht87 = true := by decide +kernel
set_option maxRecDepth 100000 in
theorem ck88 : rokM "OutwardDoors$World" false 2 (Option.none : Option Jvm.ClassFile.FieldType) prog_12_method_3_code bd88 ht88 = true := by decide +kernel
set_option maxRecDepth 100000 in
theorem ck89 : rokM "OutwardDoors" false 2 (Option.some (Jvm.ClassFile.FieldType.object "OutwardDoors$Rule")) prog_1_method_37_code bd89 ht89 = true := by decide +kernel
set_option maxRecDepth 100000 in
theorem ck90 : rokM "OutwardDoors$Mover" false 6 (Option.none : Option Jvm.ClassFile.FieldType) prog_3_method_2_code bd90 ht90 = true := by decide +kernel
set_option maxRecDepth 100000 in
theorem ck91 : rokM "OutwardDoors$Mover" false 9 (Option.none : Option Jvm.ClassFile.FieldType) prog_3_method_3_code bd91 ht91 = true := by decide +kernel
set_option maxRecDepth 100000 in
theorem ck92 : rokM "OutwardDoors$Rule" false 6 (Option.some Jvm.ClassFile.FieldType.long) prog_7_method_7_code bd92 ht92 = true := by decide +kernel
set_option maxRecDepth 100000 in
theorem ck93 : rokM "OutwardDoors$Rule" false 8 (Option.some Jvm.ClassFile.FieldType.long) prog_7_method_8_code bd93 ht93 = true := by decide +kernel
set_option maxRecDepth 100000 in
theorem ck94 : rokM "OutwardDoors$Rule" false 2 (Option.some Jvm.ClassFile.FieldType.long) prog_7_method_9_code bd94 ht94 = true := by decide +kernel
set_option maxRecDepth 100000 in
theorem ck95 : rokM "OutwardDoors$Rule" false 5 (Option.some Jvm.ClassFile.FieldType.long) prog_7_method_10_code bd95 ht95 = true := by decide +kernel
set_option maxRecDepth 100000 in
theorem ck96 : rokM "OutwardDoors$Mover" false 7 (Option.some Jvm.ClassFile.FieldType.int) prog_3_method_4_code bd96 ht96 = true := by decide +kernel
set_option maxRecDepth 100000 in
theorem ck97 : rokM "OutwardDoors$Plan" false 3 (Option.some Jvm.ClassFile.FieldType.int) prog_5_method_15_code bd97 ht97 = true := by decide +kernel
set_option maxRecDepth 100000 in
theorem ck98 : rokM "OutwardDoors" false 1 (Option.some Jvm.ClassFile.FieldType.int) prog_1_method_46_code bd98 ht98 = true := by decide +kernel
set_option maxRecDepth 100000 in
theorem ck99 : rokM "java/lang/Integer" false 1 (Option.some Jvm.ClassFile.FieldType.int) prog_15_method_49_code bd99 ht99 = true := by decide +kernel
set_option maxRecDepth 100000 in
theorem ck100 : rokM "OutwardDoors$Mover" false 5 (Option.none : Option Jvm.ClassFile.FieldType) prog_3_method_5_code bd100 ht100 = true := by decide +kernel
set_option maxRecDepth 100000 in
theorem ck101 : rokM "OutwardDoors$Mover" false 4 (Option.none : Option Jvm.ClassFile.FieldType) prog_3_method_6_code bd101 ht101 = true := by decide +kernel
set_option maxRecDepth 100000 in
theorem ck102 : rokM "OutwardDoors$World" false 3 (Option.none : Option Jvm.ClassFile.FieldType) prog_12_method_4_code bd102 ht102 = true := by decide +kernel
set_option maxRecDepth 100000 in
theorem ck103 : rokM "OutwardDoors$Mover" false 5 (Option.none : Option Jvm.ClassFile.FieldType) prog_3_method_7_code bd103 ht103 = true := by decide +kernel
set_option maxRecDepth 100000 in
theorem ck104 : rokM "OutwardDoors$Mover" false 4 (Option.some Jvm.ClassFile.FieldType.int) prog_3_method_8_code bd104 ht104 = true := by decide +kernel
set_option maxRecDepth 100000 in
theorem ck105 : rokM "OutwardDoors$World" false 4 (Option.none : Option Jvm.ClassFile.FieldType) prog_12_method_5_code bd105 ht105 = true := by decide +kernel
set_option maxRecDepth 100000 in
theorem ck106 : rokM "OutwardDoors" false 4 (Option.some Jvm.ClassFile.FieldType.int) prog_1_method_11_code bd106 ht106 = true := by decide +kernel
set_option maxRecDepth 100000 in
theorem ck107 : rokM "OutwardDoors" false 6 (Option.some Jvm.ClassFile.FieldType.boolean) prog_1_method_12_code bd107 ht107 = true := by decide +kernel
set_option maxRecDepth 100000 in
theorem ck108 : rokM "OutwardDoors" false 1 (Option.some Jvm.ClassFile.FieldType.int) prog_1_method_13_code bd108 ht108 = true := by decide +kernel
set_option maxRecDepth 100000 in
theorem ck109 : rokM "OutwardDoors" false 5 (Option.some Jvm.ClassFile.FieldType.int) prog_1_method_14_code bd109 ht109 = true := by decide +kernel
set_option maxRecDepth 100000 in
theorem ck110 : rokM "OutwardDoors" false 4 (Option.some Jvm.ClassFile.FieldType.int) prog_1_method_15_code bd110 ht110 = true := by decide +kernel
set_option maxRecDepth 100000 in
theorem ck111 : rokM "OutwardDoors" false 2 (Option.some Jvm.ClassFile.FieldType.int) prog_1_method_16_code bd111 ht111 = true := by decide +kernel
set_option maxRecDepth 100000 in
theorem ck112 : rokM "OutwardDoors" false 2 (Option.some Jvm.ClassFile.FieldType.boolean) prog_1_method_35_code bd112 ht112 = true := by decide +kernel
set_option maxRecDepth 100000 in
theorem ck113 : rokM "OutwardDoors" false 7 (Option.none : Option Jvm.ClassFile.FieldType) prog_1_method_39_code bd113 ht113 = true := by decide +kernel
set_option maxRecDepth 100000 in
theorem ck114 : rokM "OutwardDoors$Search" false 6 (Option.none : Option Jvm.ClassFile.FieldType) prog_10_method_2_code bd114 ht114 = true := by decide +kernel
set_option maxRecDepth 100000 in
theorem ck115 : rokM "OutwardDoors$Passings" false 5 (Option.none : Option Jvm.ClassFile.FieldType) prog_4_method_2_code bd115 ht115 = true := by decide +kernel
set_option maxRecDepth 100000 in
theorem ck116 : rokM "OutwardDoors$Passings" false 1 (Option.some Jvm.ClassFile.FieldType.int) prog_4_method_4_code bd116 ht116 = true := by decide +kernel
set_option maxRecDepth 100000 in
theorem ck117 : rokM "OutwardDoors$World" false 4 (Option.some Jvm.ClassFile.FieldType.int) prog_12_method_8_code bd117 ht117 = true := by decide +kernel
set_option maxRecDepth 100000 in
theorem ck118 : rokM "OutwardDoors$Search" false 2 (Option.none : Option Jvm.ClassFile.FieldType) prog_10_method_3_code bd118 ht118 = true := by decide +kernel
set_option maxRecDepth 100000 in
theorem ck119 : rokM "OutwardDoors$Search" false 3 (Option.none : Option Jvm.ClassFile.FieldType) prog_10_method_4_code bd119 ht119 = true := by decide +kernel
set_option maxRecDepth 100000 in
theorem ck120 : rokM "OutwardDoors$Search" false 4 (Option.none : Option Jvm.ClassFile.FieldType) prog_10_method_6_code bd120 ht120 = true := by decide +kernel
set_option maxRecDepth 100000 in
theorem ck121 : rokM "OutwardDoors$Passings" false 5 (Option.none : Option Jvm.ClassFile.FieldType) prog_4_method_11_code bd121 ht121 = true := by decide +kernel
set_option maxRecDepth 100000 in
theorem ck122 : rokM "OutwardDoors$Passings" false 2 (Option.some Jvm.ClassFile.FieldType.int) prog_4_method_5_code bd122 ht122 = true := by decide +kernel
set_option maxRecDepth 100000 in
theorem ck123 : rokM "OutwardDoors$Passings" false 6 (Option.none : Option Jvm.ClassFile.FieldType) prog_4_method_12_code bd123 ht123 = true := by decide +kernel
set_option maxRecDepth 100000 in
theorem ck124 : rokM "OutwardDoors$Passings" false 3 (Option.some Jvm.ClassFile.FieldType.int) prog_4_method_6_code bd124 ht124 = true := by decide +kernel
set_option maxRecDepth 100000 in
theorem ck125 : rokM "OutwardDoors$Passings" false 3 (Option.some Jvm.ClassFile.FieldType.int) prog_4_method_7_code bd125 ht125 = true := by decide +kernel
set_option maxRecDepth 100000 in
theorem ck126 : rokM "OutwardDoors$Pricer" false 5 (Option.none : Option Jvm.ClassFile.FieldType) prog_6_method_5_code bd126 ht126 = true := by decide +kernel
set_option maxRecDepth 100000 in
theorem ck127 : rokM "OutwardDoors$Passings" false 1 (Option.some Jvm.ClassFile.FieldType.int) prog_4_method_8_code bd127 ht127 = true := by decide +kernel
set_option maxRecDepth 100000 in
theorem ck128 : rokM "OutwardDoors$Pricer" false 4 (Option.none : Option Jvm.ClassFile.FieldType) prog_6_method_6_code bd128 ht128 = true := by decide +kernel
set_option maxRecDepth 100000 in
theorem ck129 : rokM "OutwardDoors$Pricer" false 2 (Option.none : Option Jvm.ClassFile.FieldType) prog_6_method_7_code bd129 ht129 = true := by decide +kernel
set_option maxRecDepth 100000 in
theorem ck130 : rokM "OutwardDoors$Search" false 4 (Option.none : Option Jvm.ClassFile.FieldType) prog_10_method_5_code bd130 ht130 = true := by decide +kernel
set_option maxRecDepth 100000 in
theorem ck131 : rokM "OutwardDoors$Passings" false 3 (Option.none : Option Jvm.ClassFile.FieldType) prog_4_method_13_code bd131 ht131 = true := by decide +kernel
set_option maxRecDepth 100000 in
theorem ck132 : rokM "OutwardDoors$Search" false 4 (Option.some Jvm.ClassFile.FieldType.int) prog_10_method_9_code bd132 ht132 = true := by decide +kernel
set_option maxRecDepth 100000 in
theorem ck133 : rokM "OutwardDoors" false 5 (Option.some Jvm.ClassFile.FieldType.int) prog_1_method_17_code bd133 ht133 = true := by decide +kernel
set_option maxRecDepth 100000 in
theorem ck134 : rokM "OutwardDoors$Search" false 2 (Option.some Jvm.ClassFile.FieldType.int) prog_10_method_11_code bd134 ht134 = true := by decide +kernel
set_option maxRecDepth 100000 in
theorem ck135 : rokM "OutwardDoors$Search" false 4 (Option.some Jvm.ClassFile.FieldType.int) prog_10_method_10_code bd135 ht135 = true := by decide +kernel
set_option maxRecDepth 100000 in
theorem ck136 : rokM "OutwardDoors$Passings" false 1 (Option.some Jvm.ClassFile.FieldType.int) prog_4_method_9_code bd136 ht136 = true := by decide +kernel
set_option maxRecDepth 100000 in
theorem ck137 : rokM "OutwardDoors$Passings" false 1 (Option.some Jvm.ClassFile.FieldType.int) prog_4_method_10_code bd137 ht137 = true := by decide +kernel
set_option maxRecDepth 100000 in
theorem ck138 : rokM "OutwardDoors" false 7 (Option.some Jvm.ClassFile.FieldType.int) prog_1_method_18_code bd138 ht138 = true := by decide +kernel
set_option maxRecDepth 100000 in
theorem ck139 : rokM "OutwardDoors$Search" false 2 (Option.none : Option Jvm.ClassFile.FieldType) prog_10_method_7_code bd139 ht139 = true := by decide +kernel
set_option maxRecDepth 100000 in
theorem ck140 : rokM "OutwardDoors$Search" false 5 (Option.some Jvm.ClassFile.FieldType.boolean) prog_10_method_8_code bd140 ht140 = true := by decide +kernel
set_option maxRecDepth 100000 in
theorem ck141 : rokM "OutwardDoors" false 6 (Option.some Jvm.ClassFile.FieldType.int) prog_1_method_19_code bd141 ht141 = true := by decide +kernel
set_option maxRecDepth 100000 in
theorem ck142 : rokM "OutwardDoors$Search" false 1 (Option.some Jvm.ClassFile.FieldType.int) prog_10_method_12_code bd142 ht142 = true := by decide +kernel
set_option maxRecDepth 100000 in
theorem ck143 : rokM "OutwardDoors" false 2 (Option.some Jvm.ClassFile.FieldType.int) prog_1_method_20_code bd143 ht143 = true := by decide +kernel
set_option maxRecDepth 100000 in
theorem ck144 : rokM "OutwardDoors$Pricer" false 3 (Option.none : Option Jvm.ClassFile.FieldType) prog_6_method_2_code bd144 ht144 = true := by decide +kernel
set_option maxRecDepth 100000 in
theorem ck145 : rokM "OutwardDoors$Pricer" false 4 (Option.some Jvm.ClassFile.FieldType.int) prog_6_method_3_code bd145 ht145 = true := by decide +kernel
set_option maxRecDepth 100000 in
theorem ck146 : rokM "OutwardDoors$Pricer" false 6 (Option.some Jvm.ClassFile.FieldType.boolean) prog_6_method_4_code bd146 ht146 = true := by decide +kernel
set_option maxRecDepth 100000 in
theorem ck147 : rokM "OutwardDoors" false 3 (Option.some Jvm.ClassFile.FieldType.int) prog_1_method_21_code bd147 ht147 = true := by decide +kernel
set_option maxRecDepth 100000 in
theorem ck148 : rokM "OutwardDoors" false 7 (Option.some Jvm.ClassFile.FieldType.int) prog_1_method_22_code bd148 ht148 = true := by decide +kernel
set_option maxRecDepth 100000 in
theorem ck149 : rokM "OutwardDoors" false 6 (Option.some Jvm.ClassFile.FieldType.boolean) prog_1_method_40_code bd149 ht149 = true := by decide +kernel
