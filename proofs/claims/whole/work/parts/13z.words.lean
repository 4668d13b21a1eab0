set_option maxRecDepth 100000 in
theorem cp_nat : Cond.native arraycopyName ∈ gws := wat_in (p := 812) (by decide +kernel)
set_option maxRecDepth 100000 in
theorem cp_stat : Cond.static arraycopyName ∈ gws := wat_in (p := 811) (by decide +kernel)
set_option maxRecDepth 100000 in
theorem cp_ini : Cond.initialized "java/lang/System" ∈ gws := wat_in (p := 162) (by decide +kernel)
set_option maxRecDepth 100000 in
theorem ob_inst : Cond.instanceMethod Lib.objectInit ∈ gws := wat_in (p := 171) (by decide +kernel)
set_option maxRecDepth 100000 in
theorem ob_code : Cond.code Lib.objectInit ⟨#[0xb1]⟩ 1 none ∈ gws := wat_in (p := 172) (by decide +kernel)
