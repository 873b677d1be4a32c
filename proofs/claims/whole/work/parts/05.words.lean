/-! words of the JDK that the machine needs by name -/
set_option maxRecDepth 100000 in
theorem tw_maxS : Cond.static Lib.Math.max.name ∈ lw_tbl := ta_3 120 rfl
set_option maxRecDepth 100000 in
theorem tw_maxC : Cond.code Lib.Math.max.name Lib.Math.max.code 2 (some .int) ∈ lw_tbl := ta_3 121 rfl
set_option maxRecDepth 100000 in
theorem tw_minS : Cond.static Lib.Math.min.name ∈ lw_tbl := ta_4 106 rfl
set_option maxRecDepth 100000 in
theorem tw_minC : Cond.code Lib.Math.min.name Lib.Math.min.code 2 (some .int) ∈ lw_tbl := ta_4 107 rfl
set_option maxRecDepth 100000 in
theorem tw_math : Cond.initialized "java/lang/Math" ∈ lw_tbl := ta_1 23 rfl
set_option maxRecDepth 100000 in
theorem tw_sys : Cond.initialized "java/lang/System" ∈ lw_tbl := ta_1 24 rfl
set_option maxRecDepth 100000 in
theorem tw_cpyS : Cond.static arraycopyName ∈ lw_tbl := ta_3 74 rfl
set_option maxRecDepth 100000 in
theorem tw_cpyN : Cond.native arraycopyName ∈ lw_tbl := ta_3 75 rfl
set_option maxRecDepth 100000 in
theorem tw_objI : Cond.instanceMethod Lib.objectInit ∈ lw_tbl := ta_1 32 rfl
set_option maxRecDepth 100000 in
theorem tw_objC : Cond.code Lib.objectInit ⟨#[0xb1]⟩ 1 none ∈ lw_tbl := ta_1 33 rfl
set_option maxRecDepth 100000 in
theorem tw_arr_int : Cond.arrayClass .int ∈ lw_tbl := ta_1 141 rfl
set_option maxRecDepth 100000 in
theorem tw_arr_byte : Cond.arrayClass .byte ∈ lw_tbl := ta_1 72 rfl
set_option maxRecDepth 100000 in
theorem tw_arr_long : Cond.arrayClass .long ∈ lw_tbl := ta_2 173 rfl
set_option maxRecDepth 100000 in
theorem tw_exI0 : Cond.initialized (exN 0) ∈ lw_tbl := ta_1 25 rfl
set_option maxRecDepth 100000 in
theorem tw_exI1 : Cond.initialized (exN 1) ∈ lw_tbl := ta_1 18 rfl
