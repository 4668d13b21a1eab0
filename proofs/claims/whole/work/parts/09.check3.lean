set_option maxRecDepth 100000 in
theorem ck225 : rokM "OutwardDoorsModel" false 5 (Option.some Jvm.ClassFile.FieldType.int) prog_14_method_63_code bd225 ht225 = true := by decide +kernel
set_option maxRecDepth 100000 in
theorem ck226 : rokM "OutwardDoorsModel" false 2 (Option.some Jvm.ClassFile.FieldType.boolean) prog_14_method_3_code bd226 ht226 = true := by decide +kernel
set_option maxRecDepth 100000 in
theorem ck227 : rokM "OutwardDoorsModel" false 3 (Option.some Jvm.ClassFile.FieldType.int) prog_14_method_67_code bd227 ht227 = true := by decide +kernel
set_option maxRecDepth 100000 in
theorem ck228 : rokM "OutwardDoorsModel" false 2 (Option.some Jvm.ClassFile.FieldType.boolean) prog_14_method_51_code bd228 ht228 = true := by decide +kernel
set_option maxRecDepth 100000 in
theorem ck229 : rokM "OutwardDoorsModel" false 2 (Option.some Jvm.ClassFile.FieldType.int) prog_14_method_79_code bd229 ht229 = true := by decide +kernel
set_option maxRecDepth 100000 in
theorem ck230 : rokM "OutwardDoorsModel" false 1 (Option.some Jvm.ClassFile.FieldType.int) prog_14_method_80_code bd230 ht230 = true := by decide +kernel
set_option maxRecDepth 100000 in
theorem ck231 : rokM "OutwardDoorsModel" false 1 (Option.some Jvm.ClassFile.FieldType.boolean) prog_14_method_48_code bd231 ht231 = true := by decide +kernel
set_option maxRecDepth 100000 in
theorem ck232 : rokM "OutwardDoorsModel" false 2 (Option.none : Option Jvm.ClassFile.FieldType) prog_14_method_78_code bd232 ht232 = true := by decide +kernel
set_option maxRecDepth 100000 in
theorem ck233 : rokM "OutwardDoorsModel" false 4 (Option.some Jvm.ClassFile.FieldType.int) prog_14_method_77_code bd233 ht233 = true := by decide +kernel
set_option maxRecDepth 100000 in
theorem ck234 : rokM "OutwardDoorsModel" false 6 (Option.none : Option Jvm.ClassFile.FieldType) prog_14_method_73_code bd234 ht234 = true := by decide +kernel
set_option maxRecDepth 100000 in
theorem ck235 : rokM "OutwardDoorsModel" false 3 (Option.none : Option Jvm.ClassFile.FieldType) prog_14_method_70_code bd235 ht235 = true := by decide +kernel
set_option maxRecDepth 100000 in
theorem ck236 : rokM "OutwardDoorsModel" false 3 (Option.some Jvm.ClassFile.FieldType.int) prog_14_method_69_code bd236 ht236 = true := by decide +kernel
set_option maxRecDepth 100000 in
theorem ck237 : rokM "OutwardDoorsModel" false 5 (Option.some Jvm.ClassFile.FieldType.int) prog_14_method_68_code bd237 ht237 = true := by decide +kernel
set_option maxRecDepth 100000 in
theorem ck238 : rokM "OutwardDoorsModel" false 4 (Option.some Jvm.ClassFile.FieldType.long) prog_14_method_71_code bd238 ht238 = true := by decide +kernel
set_option maxRecDepth 100000 in
theorem ck239 : rokM "OutwardDoorsModel" false 11 (Option.some Jvm.ClassFile.FieldType.long) prog_14_method_47_code bd239 ht239 = true := by decide +kernel
set_option maxRecDepth 100000 in
theorem ck240 : rokM "OutwardDoorsModel" false 3 (Option.none : Option Jvm.ClassFile.FieldType) prog_14_method_44_code bd240 ht240 = true := by decide +kernel
set_option maxRecDepth 100000 in
theorem ck241 : rokM "OutwardDoorsModel" false 1 (Option.some Jvm.ClassFile.FieldType.long) prog_14_method_45_code bd241 ht241 = true := by decide +kernel
set_option maxRecDepth 100000 in
theorem ck242 : rokM "OutwardDoorsModel" false 5 (Option.some Jvm.ClassFile.FieldType.long) prog_14_method_46_code bd242 ht242 = true := by decide +kernel
set_option maxRecDepth 100000 in
theorem ck243 : rokM "OutwardDoorsModel" false 3 (Option.some Jvm.ClassFile.FieldType.int) prog_14_method_72_code bd243 ht243 = true := by decide +kernel
set_option maxRecDepth 100000 in
theorem ck244 : rokM "OutwardDoorsModel" false 4 (Option.some Jvm.ClassFile.FieldType.int) prog_14_method_61_code bd244 ht244 = true := by decide +kernel
set_option maxRecDepth 100000 in
theorem ck245 : rokM "OutwardDoorsModel" false 4 (Option.none : Option Jvm.ClassFile.FieldType) prog_14_method_74_code bd245 ht245 = true := by decide +kernel
set_option maxRecDepth 100000 in
theorem ck246 : rokM "OutwardDoorsModel" false 6 (Option.some Jvm.ClassFile.FieldType.int) prog_14_method_76_code bd246 ht246 = true := by decide +kernel
set_option maxRecDepth 100000 in
theorem ck247 : rokM "OutwardDoorsModel" false 5 (Option.none : Option Jvm.ClassFile.FieldType) prog_14_method_75_code bd247 ht247 = true := by decide +kernel
set_option maxRecDepth 100000 in
theorem ck248 : rokM "OutwardDoorsModel" false 4 (Option.some Jvm.ClassFile.FieldType.int) prog_14_method_81_code bd248 ht248 = true := by decide +kernel
set_option maxRecDepth 100000 in
theorem ck249 : rokM "OutwardDoorsModel" false 4 (Option.some Jvm.ClassFile.FieldType.boolean) prog_14_method_82_code bd249 ht249 = true := by decide +kernel
set_option maxRecDepth 100000 in
theorem ck250 : rokM "OutwardDoorsModel" false 4 (Option.some Jvm.ClassFile.FieldType.int) prog_14_method_85_code bd250 ht250 = true := by decide +kernel
set_option maxRecDepth 100000 in
theorem ck251 : rokM "OutwardDoorsModel" false 2 (Option.none : Option Jvm.ClassFile.FieldType) prog_14_method_83_code bd251 ht251 = true := by decide +kernel
set_option maxRecDepth 100000 in
theorem ck252 : rokM "OutwardDoorsModel" false 2 (Option.none : Option Jvm.ClassFile.FieldType) prog_14_method_84_code bd252 ht252 = true := by decide +kernel
set_option maxRecDepth 100000 in
theorem ck253 : rokM "OutwardDoorsModel" false 4 (Option.some Jvm.ClassFile.FieldType.int) prog_14_method_86_code bd253 ht253 = true := by decide +kernel
set_option maxRecDepth 100000 in
theorem ck254 : rokM "OutwardDoorsModel" false 3 (Option.some Jvm.ClassFile.FieldType.int) prog_14_method_98_code bd254 ht254 = true := by decide +kernel
set_option maxRecDepth 100000 in
theorem ck255 : rokM "OutwardDoorsModel" false 2 (Option.some Jvm.ClassFile.FieldType.boolean) prog_14_method_97_code bd255 ht255 = true := by decide +kernel
set_option maxRecDepth 100000 in
theorem ck256 : rokM "OutwardDoorsModel" false 5 (Option.none : Option Jvm.ClassFile.FieldType) prog_14_method_96_code bd256 ht256 = true := by decide +kernel
set_option maxRecDepth 100000 in
theorem ck257 : rokM "OutwardDoorsModel" false 3 (Option.none : Option Jvm.ClassFile.FieldType) prog_14_method_95_code bd257 ht257 = true := by decide +kernel
set_option maxRecDepth 100000 in
theorem ck258 : rokM "OutwardDoorsModel" false 4 (Option.some Jvm.ClassFile.FieldType.int) prog_14_method_87_code bd258 ht258 = true := by decide +kernel
set_option maxRecDepth 100000 in
theorem ck259 : rokM "OutwardDoorsModel" false 4 (Option.some Jvm.ClassFile.FieldType.boolean) prog_14_method_91_code bd259 ht259 = true := by decide +kernel
set_option maxRecDepth 100000 in
theorem ck260 : rokM "OutwardDoorsModel" false 3 (Option.some Jvm.ClassFile.FieldType.int) prog_14_method_88_code bd260 ht260 = true := by decide +kernel
set_option maxRecDepth 100000 in
theorem ck261 : rokM "OutwardDoorsModel" false 3 (Option.none : Option Jvm.ClassFile.FieldType) prog_14_method_92_code bd261 ht261 = true := by decide +kernel
set_option maxRecDepth 100000 in
theorem ck262 : rokM "OutwardDoorsModel" false 3 (Option.none : Option Jvm.ClassFile.FieldType) prog_14_method_94_code bd262 ht262 = true := by decide +kernel
set_option maxRecDepth 100000 in
theorem ck263 : rokM "OutwardDoorsModel" false 8 (Option.none : Option Jvm.ClassFile.FieldType) prog_14_method_93_code bd263 ht263 = true := by decide +kernel
set_option maxRecDepth 100000 in
theorem ck264 : rokM "OutwardDoorsModel" false 4 (Option.some Jvm.ClassFile.FieldType.int) prog_14_method_89_code bd264 ht264 = true := by decide +kernel
set_option maxRecDepth 100000 in
theorem ck265 : rokM "OutwardDoorsModel" false 3 (Option.some Jvm.ClassFile.FieldType.int) prog_14_method_90_code bd265 ht265 = true := by decide +kernel
set_option maxRecDepth 100000 in
theorem ck266 : rokM "OutwardDoorsModel" false 6 (Option.some Jvm.ClassFile.FieldType.int) prog_14_method_100_code bd266 ht266 = true := by decide +kernel
set_option maxRecDepth 100000 in
theorem ck267 : rokM "OutwardDoorsModel" false 7 (Option.some Jvm.ClassFile.FieldType.int) prog_14_method_99_code bd267 ht267 = true := by decide +kernel
set_option maxRecDepth 100000 in
theorem ck268 : rokM "OutwardDoorsModel" false 6 (Option.some Jvm.ClassFile.FieldType.int) prog_14_method_101_code bd268 ht268 = true := by decide +kernel
set_option maxRecDepth 100000 in
theorem ck269 : rokM "OutwardDoorsModel" false 7 (Option.some Jvm.ClassFile.FieldType.int) prog_14_method_102_code bd269 ht269 = true := by decide +kernel
set_option maxRecDepth 100000 in
theorem ck270 : rokM "OutwardDoorsModel" false 5 (Option.some Jvm.ClassFile.FieldType.int) prog_14_method_104_code bd270 ht270 = true := by decide +kernel
set_option maxRecDepth 100000 in
theorem ck271 : rokM "OutwardDoorsModel" false 10 (Option.some Jvm.ClassFile.FieldType.boolean) prog_14_method_103_code bd271 ht271 = true := by decide +kernel
set_option maxRecDepth 100000 in
theorem ck272 : rokM "OutwardDoorsModel" false 4 (Option.some Jvm.ClassFile.FieldType.int) prog_14_method_105_code bd272 ht272 = true := by decide +kernel
set_option maxRecDepth 100000 in
theorem ck273 : rokM "OutwardDoorsModel" false 7 (Option.some Jvm.ClassFile.FieldType.int) prog_14_method_107_code bd273 ht273 = true := by decide +kernel
set_option maxRecDepth 100000 in
theorem ck274 : rokM "OutwardDoorsModel" false 3 (Option.some Jvm.ClassFile.FieldType.boolean) prog_14_method_106_code bd274 ht274 = true := by decide +kernel
set_option maxRecDepth 100000 in
theorem ck275 : rokM "OutwardDoorsModel" false 5 (Option.some Jvm.ClassFile.FieldType.int) prog_14_method_108_code bd275 ht275 = true := by decide +kernel
set_option maxRecDepth 100000 in
theorem ck276 : rokM "OutwardDoorsModel" false 5 (Option.some Jvm.ClassFile.FieldType.int) prog_14_method_112_code bd276 ht276 = true := by decide +kernel
set_option maxRecDepth 100000 in
theorem ck277 : rokM "OutwardDoorsModel" false 6 (Option.none : Option Jvm.ClassFile.FieldType) prog_14_method_111_code bd277 ht277 = true := by decide +kernel
set_option maxRecDepth 100000 in
theorem ck278 : rokM "OutwardDoorsModel" false 3 (Option.none : Option Jvm.ClassFile.FieldType) prog_14_method_109_code bd278 ht278 = true := by decide +kernel
set_option maxRecDepth 100000 in
theorem ck279 : rokM "OutwardDoorsModel" false 3 (Option.some Jvm.ClassFile.FieldType.boolean) prog_14_method_110_code bd279 ht279 = true := by decide +kernel
set_option maxRecDepth 100000 in
theorem ck280 : rokM "OutwardDoorsModel" false 7 (Option.some Jvm.ClassFile.FieldType.int) prog_14_method_114_code bd280 ht280 = true := by decide +kernel
set_option maxRecDepth 100000 in
theorem ck281 : rokM "OutwardDoorsModel" false 6 (Option.some Jvm.ClassFile.FieldType.int) prog_14_method_113_code bd281 ht281 = true := by decide +kernel
set_option maxRecDepth 100000 in
theorem ck282 : rokM "OutwardDoorsModel" false 3 (Option.some Jvm.ClassFile.FieldType.int) prog_14_method_115_code bd282 ht282 = true := by decide +kernel
set_option maxRecDepth 100000 in
theorem ck283 : rokM "OutwardDoorsModel" false 8 (Option.some Jvm.ClassFile.FieldType.int) prog_14_method_119_code bd283 ht283 = true := by decide +kernel
set_option maxRecDepth 100000 in
theorem ck284 : rokM "OutwardDoorsModel" false 4 (Option.some Jvm.ClassFile.FieldType.int) prog_14_method_118_code bd284 ht284 = true := by decide +kernel
set_option maxRecDepth 100000 in
theorem ck285 : rokM "OutwardDoorsModel" false 2 (Option.none : Option Jvm.ClassFile.FieldType) prog_14_method_117_code bd285 ht285 = true := by decide +kernel
set_option maxRecDepth 100000 in
theorem ck286 : rokM "OutwardDoorsModel" false 2 (Option.some Jvm.ClassFile.FieldType.int) prog_14_method_116_code bd286 ht286 = true := by decide +kernel
set_option maxRecDepth 100000 in
theorem ck287 : rokM "OutwardDoorsModel" false 2 (Option.some Jvm.ClassFile.FieldType.int) prog_14_method_120_code bd287 ht287 = true := by decide +kernel
set_option maxRecDepth 100000 in
theorem ck288 : rokM "OutwardDoorsModel" false 3 (Option.some Jvm.ClassFile.FieldType.int) prog_14_method_121_code bd288 ht288 = true := by decide +kernel
set_option maxRecDepth 100000 in
theorem ck289 : rokM "OutwardDoorsModel" false 3 (Option.some Jvm.ClassFile.FieldType.int) prog_14_method_122_code bd289 ht289 = true := by decide +kernel
