set_option maxRecDepth 100000 in
theorem ck150 : rokM "OutwardDoors" false 4 (Option.some Jvm.ClassFile.FieldType.int) prog_1_method_23_code bd150 ht150 = true := by decide +kernel
set_option maxRecDepth 100000 in
theorem ck151 : rokM "OutwardDoors$Scene" false 4 (Option.none : Option Jvm.ClassFile.FieldType) prog_9_method_3_code bd151 ht151 = true := by decide +kernel
set_option maxRecDepth 100000 in
theorem ck152 : rokM "OutwardDoors" false 5 (Option.some Jvm.ClassFile.FieldType.int) prog_1_method_24_code bd152 ht152 = true := by decide +kernel
set_option maxRecDepth 100000 in
theorem ck153 : rokM "OutwardDoors" false 5 (Option.some Jvm.ClassFile.FieldType.boolean) prog_1_method_41_code bd153 ht153 = true := by decide +kernel
set_option maxRecDepth 100000 in
theorem ck154 : rokM "OutwardDoors$Scene" false 3 (Option.some Jvm.ClassFile.FieldType.int) prog_9_method_4_code bd154 ht154 = true := by decide +kernel
set_option maxRecDepth 100000 in
theorem ck155 : rokM "OutwardDoors$Scene" false 4 (Option.some Jvm.ClassFile.FieldType.boolean) prog_9_method_5_code bd155 ht155 = true := by decide +kernel
set_option maxRecDepth 100000 in
theorem ck156 : rokM "OutwardDoors" false 7 (Option.some Jvm.ClassFile.FieldType.int) prog_1_method_25_code bd156 ht156 = true := by decide +kernel
set_option maxRecDepth 100000 in
theorem ck157 : rokM "OutwardDoors" false 4 (Option.some Jvm.ClassFile.FieldType.int) prog_1_method_42_code bd157 ht157 = true := by decide +kernel
set_option maxRecDepth 100000 in
theorem ck158 : rokM "OutwardDoors" false 4 (Option.none : Option Jvm.ClassFile.FieldType) prog_1_method_43_code bd158 ht158 = true := by decide +kernel
set_option maxRecDepth 100000 in
theorem ck159 : rokM "OutwardDoors" false 4 (Option.some Jvm.ClassFile.FieldType.int) prog_1_method_44_code bd159 ht159 = true := by decide +kernel
set_option maxRecDepth 100000 in
theorem ck160 : rokM "OutwardDoors" false 3 (Option.some Jvm.ClassFile.FieldType.int) prog_1_method_26_code bd160 ht160 = true := by decide +kernel
set_option maxRecDepth 100000 in
theorem ck161 : rokM "OutwardDoors" false 11 (Option.some Jvm.ClassFile.FieldType.int) prog_1_method_27_code bd161 ht161 = true := by decide +kernel
set_option maxRecDepth 100000 in
theorem ck162 : rokM "OutwardDoors" false 1 (Option.some Jvm.ClassFile.FieldType.int) prog_1_method_45_code bd162 ht162 = true := by decide +kernel
set_option maxRecDepth 100000 in
theorem ck163 : rokM "OutwardDoors" false 2 (Option.some Jvm.ClassFile.FieldType.int) prog_1_method_28_code bd163 ht163 = true := by decide +kernel
set_option maxRecDepth 100000 in
theorem ck164 : rokM "OutwardDoors$World" false 4 (Option.some Jvm.ClassFile.FieldType.int) prog_12_method_7_code bd164 ht164 = true := by decide +kernel
set_option maxRecDepth 100000 in
theorem ck165 : rokM "OutwardDoors" false 2 (Option.some Jvm.ClassFile.FieldType.int) prog_1_method_29_code bd165 ht165 = true := by decide +kernel
set_option maxRecDepth 100000 in
theorem ck166 : rokM "OutwardDoors$Scene" false 2 (Option.none : Option Jvm.ClassFile.FieldType) prog_9_method_2_code bd166 ht166 = true := by decide +kernel
set_option maxRecDepth 100000 in
theorem ck167 : rokM "OutwardDoors" false 2 (Option.some Jvm.ClassFile.FieldType.int) prog_1_method_30_code bd167 ht167 = true := by decide +kernel
set_option maxRecDepth 100000 in
theorem ck168 : rokM "OutwardDoorsModel" true 1 (Option.none : Option Jvm.ClassFile.FieldType) prog_14_method_1_code bd168 ht168 = true := by decide +kernel
set_option maxRecDepth 100000 in
theorem ck169 : rokM "OutwardDoorsModel" false 6 (Option.some Jvm.ClassFile.FieldType.int) prog_14_method_5_code bd169 ht169 = true := by decide +kernel
set_option maxRecDepth 100000 in
theorem ck170 : rokM "OutwardDoorsModel" false 3 (Option.none : Option Jvm.ClassFile.FieldType) prog_14_method_4_code bd170 ht170 = true := by decide +kernel
set_option maxRecDepth 100000 in
theorem ck171 : rokM "OutwardDoorsModel" false 2 (Option.some Jvm.ClassFile.FieldType.int) prog_14_method_6_code bd171 ht171 = true := by decide +kernel
set_option maxRecDepth 100000 in
theorem ck172 : rokM "OutwardDoorsModel" false 1 (Option.some Jvm.ClassFile.FieldType.int) prog_14_method_40_code bd172 ht172 = true := by decide +kernel
set_option maxRecDepth 100000 in
theorem ck173 : rokM "OutwardDoorsModel" false 2 (Option.some Jvm.ClassFile.FieldType.boolean) prog_14_method_39_code bd173 ht173 = true := by decide +kernel
set_option maxRecDepth 100000 in
theorem ck174 : rokM "OutwardDoorsModel" false 3 (Option.some Jvm.ClassFile.FieldType.boolean) prog_14_method_38_code bd174 ht174 = true := by decide +kernel
set_option maxRecDepth 100000 in
theorem ck175 : rokM "OutwardDoorsModel" false 1 (Option.some Jvm.ClassFile.FieldType.int) prog_14_method_8_code bd175 ht175 = true := by decide +kernel
set_option maxRecDepth 100000 in
theorem ck176 : rokM "OutwardDoorsModel" false 1 (Option.some Jvm.ClassFile.FieldType.boolean) prog_14_method_37_code bd176 ht176 = true := by decide +kernel
set_option maxRecDepth 100000 in
theorem ck177 : rokM "OutwardDoorsModel" false 6 (Option.some Jvm.ClassFile.FieldType.boolean) prog_14_method_11_code bd177 ht177 = true := by decide +kernel
set_option maxRecDepth 100000 in
theorem ck178 : rokM "OutwardDoorsModel" false 2 (Option.some Jvm.ClassFile.FieldType.boolean) prog_14_method_10_code bd178 ht178 = true := by decide +kernel
set_option maxRecDepth 100000 in
theorem ck179 : rokM "OutwardDoorsModel" false 3 (Option.some Jvm.ClassFile.FieldType.boolean) prog_14_method_7_code bd179 ht179 = true := by decide +kernel
set_option maxRecDepth 100000 in
theorem ck180 : rokM "OutwardDoorsModel" false 2 (Option.some Jvm.ClassFile.FieldType.boolean) prog_14_method_36_code bd180 ht180 = true := by decide +kernel
set_option maxRecDepth 100000 in
theorem ck181 : rokM "OutwardDoorsModel" false 2 (Option.some Jvm.ClassFile.FieldType.boolean) prog_14_method_31_code bd181 ht181 = true := by decide +kernel
set_option maxRecDepth 100000 in
theorem ck182 : rokM "OutwardDoorsModel" false 1 (Option.none : Option Jvm.ClassFile.FieldType) prog_14_method_12_code bd182 ht182 = true := by decide +kernel
set_option maxRecDepth 100000 in
theorem ck183 : rokM "OutwardDoorsModel" false 4 (Option.some Jvm.ClassFile.FieldType.boolean) prog_14_method_30_code bd183 ht183 = true := by decide +kernel
set_option maxRecDepth 100000 in
theorem ck184 : rokM "OutwardDoorsModel" false 5 (Option.some Jvm.ClassFile.FieldType.boolean) prog_14_method_14_code bd184 ht184 = true := by decide +kernel
set_option maxRecDepth 100000 in
theorem ck185 : rokM "OutwardDoorsModel" false 2 (Option.some Jvm.ClassFile.FieldType.boolean) prog_14_method_9_code bd185 ht185 = true := by decide +kernel
set_option maxRecDepth 100000 in
theorem ck186 : rokM "OutwardDoorsModel" false 6 (Option.some Jvm.ClassFile.FieldType.boolean) prog_14_method_2_code bd186 ht186 = true := by decide +kernel
set_option maxRecDepth 100000 in
theorem ck187 : rokM "OutwardDoorsModel" false 1 (Option.some Jvm.ClassFile.FieldType.boolean) prog_14_method_32_code bd187 ht187 = true := by decide +kernel
set_option maxRecDepth 100000 in
theorem ck188 : rokM "OutwardDoorsModel" false 9 (Option.some Jvm.ClassFile.FieldType.boolean) prog_14_method_33_code bd188 ht188 = true := by decide +kernel
set_option maxRecDepth 100000 in
theorem ck189 : rokM "OutwardDoorsModel" false 2 (Option.some Jvm.ClassFile.FieldType.boolean) prog_14_method_34_code bd189 ht189 = true := by decide +kernel
set_option maxRecDepth 100000 in
theorem ck190 : rokM "OutwardDoorsModel" false 3 (Option.some Jvm.ClassFile.FieldType.boolean) prog_14_method_35_code bd190 ht190 = true := by decide +kernel
set_option maxRecDepth 100000 in
theorem ck191 : rokM "OutwardDoorsModel" false 2 (Option.some Jvm.ClassFile.FieldType.boolean) prog_14_method_29_code bd191 ht191 = true := by decide +kernel
set_option maxRecDepth 100000 in
theorem ck192 : rokM "OutwardDoorsModel" false 2 (Option.some Jvm.ClassFile.FieldType.boolean) prog_14_method_23_code bd192 ht192 = true := by decide +kernel
set_option maxRecDepth 100000 in
theorem ck193 : rokM "OutwardDoorsModel" false 2 (Option.some Jvm.ClassFile.FieldType.boolean) prog_14_method_22_code bd193 ht193 = true := by decide +kernel
set_option maxRecDepth 100000 in
theorem ck194 : rokM "OutwardDoorsModel" false 3 (Option.some Jvm.ClassFile.FieldType.boolean) prog_14_method_21_code bd194 ht194 = true := by decide +kernel
set_option maxRecDepth 100000 in
theorem ck195 : rokM "OutwardDoorsModel" false 2 (Option.some Jvm.ClassFile.FieldType.boolean) prog_14_method_17_code bd195 ht195 = true := by decide +kernel
set_option maxRecDepth 100000 in
theorem ck196 : rokM "OutwardDoorsModel" false 3 (Option.none : Option Jvm.ClassFile.FieldType) prog_14_method_16_code bd196 ht196 = true := by decide +kernel
set_option maxRecDepth 100000 in
theorem ck197 : rokM "OutwardDoorsModel" false 1 (Option.some Jvm.ClassFile.FieldType.int) prog_14_method_15_code bd197 ht197 = true := by decide +kernel
set_option maxRecDepth 100000 in
theorem ck198 : rokM "OutwardDoorsModel" false 3 (Option.some Jvm.ClassFile.FieldType.boolean) prog_14_method_13_code bd198 ht198 = true := by decide +kernel
set_option maxRecDepth 100000 in
theorem ck199 : rokM "OutwardDoorsModel" false 3 (Option.some Jvm.ClassFile.FieldType.boolean) prog_14_method_28_code bd199 ht199 = true := by decide +kernel
set_option maxRecDepth 100000 in
theorem ck200 : rokM "OutwardDoorsModel" false 3 (Option.some Jvm.ClassFile.FieldType.boolean) prog_14_method_25_code bd200 ht200 = true := by decide +kernel
set_option maxRecDepth 100000 in
theorem ck201 : rokM "OutwardDoorsModel" false 2 (Option.some Jvm.ClassFile.FieldType.boolean) prog_14_method_18_code bd201 ht201 = true := by decide +kernel
set_option maxRecDepth 100000 in
theorem ck202 : rokM "OutwardDoorsModel" false 5 (Option.some Jvm.ClassFile.FieldType.boolean) prog_14_method_24_code bd202 ht202 = true := by decide +kernel
set_option maxRecDepth 100000 in
theorem ck203 : rokM "OutwardDoorsModel" false 1 (Option.none : Option Jvm.ClassFile.FieldType) prog_14_method_27_code bd203 ht203 = true := by decide +kernel
set_option maxRecDepth 100000 in
theorem ck204 : rokM "OutwardDoorsModel" false 2 (Option.none : Option Jvm.ClassFile.FieldType) prog_14_method_20_code bd204 ht204 = true := by decide +kernel
set_option maxRecDepth 100000 in
theorem ck205 : rokM "OutwardDoorsModel" false 1 (Option.some Jvm.ClassFile.FieldType.int) prog_14_method_19_code bd205 ht205 = true := by decide +kernel
set_option maxRecDepth 100000 in
theorem ck206 : rokM "OutwardDoorsModel" false 2 (Option.some Jvm.ClassFile.FieldType.boolean) prog_14_method_26_code bd206 ht206 = true := by decide +kernel
set_option maxRecDepth 100000 in
theorem ck207 : rokM "OutwardDoorsModel" false 2 (Option.some Jvm.ClassFile.FieldType.int) prog_14_method_42_code bd207 ht207 = true := by decide +kernel
set_option maxRecDepth 100000 in
theorem ck208 : rokM "OutwardDoorsModel" false 5 (Option.none : Option Jvm.ClassFile.FieldType) prog_14_method_41_code bd208 ht208 = true := by decide +kernel
set_option maxRecDepth 100000 in
theorem ck209 : rokM "OutwardDoorsModel" false 3 (Option.some Jvm.ClassFile.FieldType.int) prog_14_method_52_code bd209 ht209 = true := by decide +kernel
set_option maxRecDepth 100000 in
theorem ck210 : rokM "OutwardDoorsModel" false 3 (Option.some Jvm.ClassFile.FieldType.int) prog_14_method_64_code bd210 ht210 = true := by decide +kernel
set_option maxRecDepth 100000 in
theorem ck211 : rokM "OutwardDoorsModel" false 2 (Option.some Jvm.ClassFile.FieldType.boolean) prog_14_method_43_code bd211 ht211 = true := by decide +kernel
set_option maxRecDepth 100000 in
theorem ck212 : rokM "OutwardDoorsModel" false 3 (Option.some Jvm.ClassFile.FieldType.int) prog_14_method_65_code bd212 ht212 = true := by decide +kernel
set_option maxRecDepth 100000 in
theorem ck213 : rokM "OutwardDoorsModel" false 2 (Option.some Jvm.ClassFile.FieldType.boolean) prog_14_method_49_code bd213 ht213 = true := by decide +kernel
set_option maxRecDepth 100000 in
theorem ck214 : rokM "OutwardDoorsModel" false 2 (Option.some Jvm.ClassFile.FieldType.int) prog_14_method_59_code bd214 ht214 = true := by decide +kernel
set_option maxRecDepth 100000 in
theorem ck215 : rokM "OutwardDoorsModel" false 3 (Option.some Jvm.ClassFile.FieldType.int) prog_14_method_58_code bd215 ht215 = true := by decide +kernel
set_option maxRecDepth 100000 in
theorem ck216 : rokM "OutwardDoorsModel" false 6 (Option.none : Option Jvm.ClassFile.FieldType) prog_14_method_57_code bd216 ht216 = true := by decide +kernel
set_option maxRecDepth 100000 in
theorem ck217 : rokM "OutwardDoorsModel" false 2 (Option.some Jvm.ClassFile.FieldType.boolean) prog_14_method_56_code bd217 ht217 = true := by decide +kernel
set_option maxRecDepth 100000 in
theorem ck218 : rokM "OutwardDoorsModel" false 2 (Option.some Jvm.ClassFile.FieldType.int) prog_14_method_53_code bd218 ht218 = true := by decide +kernel
set_option maxRecDepth 100000 in
theorem ck219 : rokM "OutwardDoorsModel" false 2 (Option.some Jvm.ClassFile.FieldType.int) prog_14_method_54_code bd219 ht219 = true := by decide +kernel
set_option maxRecDepth 100000 in
theorem ck220 : rokM "OutwardDoorsModel" false 2 (Option.some Jvm.ClassFile.FieldType.boolean) prog_14_method_55_code bd220 ht220 = true := by decide +kernel
set_option maxRecDepth 100000 in
theorem ck221 : rokM "OutwardDoorsModel" false 7 (Option.some Jvm.ClassFile.FieldType.int) prog_14_method_60_code bd221 ht221 = true := by decide +kernel
set_option maxRecDepth 100000 in
theorem ck222 : rokM "OutwardDoorsModel" false 3 (Option.some Jvm.ClassFile.FieldType.int) prog_14_method_66_code bd222 ht222 = true := by decide +kernel
set_option maxRecDepth 100000 in
theorem ck223 : rokM "OutwardDoorsModel" false 2 (Option.some Jvm.ClassFile.FieldType.boolean) prog_14_method_50_code bd223 ht223 = true := by decide +kernel
set_option maxRecDepth 100000 in
theorem ck224 : rokM "OutwardDoorsModel" false 4 (Option.some Jvm.ClassFile.FieldType.int) prog_14_method_62_code bd224 ht224 = true := by decide +kernel
