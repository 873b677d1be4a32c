/-! words of the JDK that the machine needs by name -/
set_option maxRecDepth 100000 in
theorem tw_maxS : Cond.static Lib.Math.max.name ∈ lw_tbl := ta_3 120 rfl
set_option maxRecDepth 100000 in
theorem tw_maxC : Cond.code Lib.Math.max.name Lib.Math.max.code 2 (some .int) ∈ lw_tbl := ta_3 121 rfl
set_option maxRecDepth 100000 in
theorem tw_minS : Cond.static Lib.Math.min.name ∈ lw_tbl := ta_4 106 rfl
set_option maxRecDepth 100000 in
theorem tw_minC : Cond.code Lib.Math.min.name Lib.Math.min.code 2 (some .int) ∈ lw_tbl := ta_4 107 rfl
set_option maxRecDepth 100000 in
theorem tw_math : Cond.initialized "java/lang/Math" ∈ lw_tbl := ta_1 23 rfl
set_option maxRecDepth 100000 in
theorem tw_sys : Cond.initialized "java/lang/System" ∈ lw_tbl := ta_1 24 rfl
set_option maxRecDepth 100000 in
theorem tw_cpyS : Cond.static arraycopyName ∈ lw_tbl := ta_3 74 rfl
set_option maxRecDepth 100000 in
theorem tw_cpyN : Cond.native arraycopyName ∈ lw_tbl := ta_3 75 rfl
set_option maxRecDepth 100000 in
theorem tw_objI : Cond.instanceMethod Lib.objectInit ∈ lw_tbl := ta_1 32 rfl
set_option maxRecDepth 100000 in
theorem tw_objC : Cond.code Lib.objectInit ⟨#[0xb1]⟩ 1 none ∈ lw_tbl := ta_1 33 rfl
set_option maxRecDepth 100000 in
theorem tw_arr_int : Cond.arrayClass .int ∈ lw_tbl := ta_1 141 rfl
set_option maxRecDepth 100000 in
theorem tw_arr_byte : Cond.arrayClass .byte ∈ lw_tbl := ta_1 72 rfl
set_option maxRecDepth 100000 in
theorem tw_arr_long : Cond.arrayClass .long ∈ lw_tbl := ta_2 173 rfl
set_option maxRecDepth 100000 in
theorem tw_exI0 : Cond.initialized (exN 0) ∈ lw_tbl := ta_1 25 rfl
set_option maxRecDepth 100000 in
theorem tw_exI1 : Cond.initialized (exN 1) ∈ lw_tbl := ta_1 18 rfl
set_option maxRecDepth 100000 in
theorem tw_lsU : Cond.laysStatic RX2 "UNTOLD" "[I" ∈ lw_tbl := ta_1 153 rfl
set_option maxRecDepth 100000 in
theorem tw_lsC : Cond.laysStatic RJ0 "COMPACT_STRINGS" "Z" ∈ lw_tbl := ta_4 35 rfl
set_option maxRecDepth 100000 in
theorem tw_lsF : Cond.laysStatic RJ3 "SIOOBE_FORMATTER" "Ljava/util/function/BiFunction;" ∈ lw_tbl := ta_4 51 rfl
set_option maxRecDepth 100000 in
theorem tw_lsA : Cond.laysStatic Bundle.tN "UNASSIGNED_STACK" Bundle.steD ∈ lw_tbl := ta_3 198 rfl
set_option maxRecDepth 100000 in
theorem tw_lsS : Cond.laysStatic Bundle.tN "SUPPRESSED_SENTINEL" Bundle.listD ∈ lw_tbl := ta_3 200 rfl
set_option maxRecDepth 100000 in
theorem tw_inL : Cond.initialized RX2 ∈ lw_tbl := ta_1 4 rfl
set_option maxRecDepth 100000 in
theorem tw_inJ : Cond.initialized RJ0 ∈ lw_tbl := ta_1 19 rfl
set_option maxRecDepth 100000 in
theorem tw_inP : Cond.initialized RJ3 ∈ lw_tbl := ta_1 21 rfl
set_option maxRecDepth 100000 in
theorem tw_inT : Cond.initialized Bundle.tN ∈ lw_tbl := ta_1 15 rfl
set_option maxRecDepth 100000 in
theorem tw_str0 : Cond.stringRef (rn 1) 67 "piece collar fire hope " ∈ lw_tbl := ta_4 13 rfl
set_option maxRecDepth 100000 in
theorem tw_str1 : Cond.stringRef (rn 2) 78 "flow loss length bends burst place turned hope piece least most " ∈ lw_tbl := ta_4 185 rfl
set_option maxRecDepth 100000 in
theorem tw_str2 : Cond.stringRef (rn 9) 64 "turn lay lift bend burst patch hope hour again " ∈ lw_tbl := ta_4 228 rfl
set_option maxRecDepth 100000 in
theorem tw_exs0 : Cond.stringRef "HoseDynasty" 450 (exT 0) ∈ lw_tbl := ta_5 172 rfl
set_option maxRecDepth 100000 in
theorem tw_exs1 : Cond.stringRef "HoseDynasty" 443 (exT 1) ∈ lw_tbl := ta_3 211 rfl
set_option maxRecDepth 100000 in
theorem tw_aoa : Cond.arrayOver (.array .int) ∈ lw_tbl := ta_7 77 rfl
set_option maxRecDepth 100000 in
theorem tw_cas0 : Cond.castable (exN 0) (exN 0) ∈ lw_tbl := ta_5 165 rfl
set_option maxRecDepth 100000 in
theorem tw_cas1 : Cond.castable (exN 1) (exN 1) ∈ lw_tbl := ta_3 173 rfl
set_option maxRecDepth 100000 in
theorem tw_ins0 : Cond.instantiable RX0 7 ∈ lw_tbl := ta_1 168 rfl
set_option maxRecDepth 100000 in
theorem tw_ins1 : Cond.instantiable RX1 13 ∈ lw_tbl := ta_1 74 rfl
set_option maxRecDepth 100000 in
theorem tw_ins2 : Cond.instantiable RX2 4 ∈ lw_tbl := ta_1 143 rfl
set_option maxRecDepth 100000 in
theorem tw_ins3 : Cond.instantiable RX3 8 ∈ lw_tbl := ta_2 0 rfl
set_option maxRecDepth 100000 in
theorem tw_ins4 : Cond.instantiable RX4 5 ∈ lw_tbl := ta_2 52 rfl
set_option maxRecDepth 100000 in
theorem tw_ins5 : Cond.instantiable RX5 17 ∈ lw_tbl := ta_2 109 rfl
set_option maxRecDepth 100000 in
theorem tw_ins6 : Cond.instantiable RX6 7 ∈ lw_tbl := ta_2 175 rfl
set_option maxRecDepth 100000 in
theorem tw_ins7 : Cond.instantiable RX7 8 ∈ lw_tbl := ta_1 35 rfl
set_option maxRecDepth 100000 in
theorem tw_ins8 : Cond.instantiable RX8 7 ∈ lw_tbl := ta_2 76 rfl
set_option maxRecDepth 100000 in
theorem tw_ins9 : Cond.instantiable RX9 8 ∈ lw_tbl := ta_1 208 rfl
set_option maxRecDepth 100000 in
theorem tw_ins10 : Cond.instantiable RX10 5 ∈ lw_tbl := ta_2 206 rfl
set_option maxRecDepth 100000 in
theorem tw_ins11 : Cond.instantiable RX11 16 ∈ lw_tbl := ta_1 27 rfl
set_option maxRecDepth 100000 in
theorem tw_ins12 : Cond.instantiable RX12 51 ∈ lw_tbl := ta_7 71 rfl
