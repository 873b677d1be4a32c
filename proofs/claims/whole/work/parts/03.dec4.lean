theorem dX12_sure_60 : decode cX12_sure 60 = .ok (.lconst 0, 1) := by decide +kernel
theorem dX12_sure_61 : decode cX12_sure 61 = .ok (.lreturn, 1) := by decide +kernel
theorem dX12_sure_62 : decode cX12_sure 62 = .ok (.aload_n 0, 1) := by decide +kernel
theorem dX12_sure_63 : decode cX12_sure 63 = .ok (.getfield 67, 3) := by decide +kernel
theorem dX12_sure_66 : decode cX12_sure 66 = .ok (.invokestatic 264, 3) := by decide +kernel
theorem dX12_sure_69 : decode cX12_sure 69 = .ok (.istore 4, 2) := by decide +kernel
theorem dX12_sure_71 : decode cX12_sure 71 = .ok (.lconst 0, 1) := by decide +kernel
theorem dX12_sure_72 : decode cX12_sure 72 = .ok (.lstore 5, 2) := by decide +kernel
theorem dX12_sure_74 : decode cX12_sure 74 = .ok (.iconst 0, 1) := by decide +kernel
theorem dX12_sure_75 : decode cX12_sure 75 = .ok (.istore 7, 2) := by decide +kernel
theorem dX12_sure_77 : decode cX12_sure 77 = .ok (.iload 7, 2) := by decide +kernel
theorem dX12_sure_79 : decode cX12_sure 79 = .ok (.iconst 1, 1) := by decide +kernel
theorem dX12_sure_80 : decode cX12_sure 80 = .ok (.iload 4, 2) := by decide +kernel
theorem dX12_sure_82 : decode cX12_sure 82 = .ok (.ishl, 1) := by decide +kernel
theorem dX12_sure_83 : decode cX12_sure 83 = .ok (.if_icmp .ge 122, 3) := by decide +kernel
theorem dX12_sure_86 : decode cX12_sure 86 = .ok (.lconst 1, 1) := by decide +kernel
theorem dX12_sure_87 : decode cX12_sure 87 = .ok (.lstore 8, 2) := by decide +kernel
theorem dX12_sure_89 : decode cX12_sure 89 = .ok (.aload_n 0, 1) := by decide +kernel
theorem dX12_sure_90 : decode cX12_sure 90 = .ok (.getfield 67, 3) := by decide +kernel
theorem dX12_sure_93 : decode cX12_sure 93 = .ok (.aload_n 0, 1) := by decide +kernel
theorem dX12_sure_94 : decode cX12_sure 94 = .ok (.getfield 70, 3) := by decide +kernel
theorem dX12_sure_97 : decode cX12_sure 97 = .ok (.invokestatic 347, 3) := by decide +kernel
theorem dX12_sure_100 : decode cX12_sure 100 = .ok (.iconst 0, 1) := by decide +kernel
theorem dX12_sure_101 : decode cX12_sure 101 = .ok (.istore 10, 2) := by decide +kernel
theorem dX12_sure_103 : decode cX12_sure 103 = .ok (.iload 10, 2) := by decide +kernel
theorem dX12_sure_105 : decode cX12_sure 105 = .ok (.iload 4, 2) := by decide +kernel
theorem dX12_sure_107 : decode cX12_sure 107 = .ok (.if_icmp .ge 69, 3) := by decide +kernel
theorem dX12_sure_110 : decode cX12_sure 110 = .ok (.lload 8, 2) := by decide +kernel
theorem dX12_sure_112 : decode cX12_sure 112 = .ok (.iload 7, 2) := by decide +kernel
theorem dX12_sure_114 : decode cX12_sure 114 = .ok (.iload 10, 2) := by decide +kernel
theorem dX12_sure_116 : decode cX12_sure 116 = .ok (.invokestatic 366, 3) := by decide +kernel
theorem dX12_sure_119 : decode cX12_sure 119 = .ok (.ifCond .eq 8, 3) := by decide +kernel
theorem dX12_sure_122 : decode cX12_sure 122 = .ok (.iload_n 2, 1) := by decide +kernel
theorem dX12_sure_123 : decode cX12_sure 123 = .ok (.i2l, 1) := by decide +kernel
theorem dX12_sure_124 : decode cX12_sure 124 = .ok (.goto 8, 3) := by decide +kernel
theorem dX12_sure_127 : decode cX12_sure 127 = .ok (.bipush 16, 2) := by decide +kernel
theorem dX12_sure_129 : decode cX12_sure 129 = .ok (.iload_n 2, 1) := by decide +kernel
theorem dX12_sure_130 : decode cX12_sure 130 = .ok (.isub, 1) := by decide +kernel
theorem dX12_sure_131 : decode cX12_sure 131 = .ok (.i2l, 1) := by decide +kernel
theorem dX12_sure_132 : decode cX12_sure 132 = .ok (.lmul, 1) := by decide +kernel
theorem dX12_sure_133 : decode cX12_sure 133 = .ok (.lstore 8, 2) := by decide +kernel
theorem dX12_sure_135 : decode cX12_sure 135 = .ok (.aload_n 0, 1) := by decide +kernel
theorem dX12_sure_136 : decode cX12_sure 136 = .ok (.getfield 70, 3) := by decide +kernel
theorem dX12_sure_139 : decode cX12_sure 139 = .ok (.bipush 18, 2) := by decide +kernel
theorem dX12_sure_141 : decode cX12_sure 141 = .ok (.aload_n 0, 1) := by decide +kernel
theorem dX12_sure_142 : decode cX12_sure 142 = .ok (.getfield 67, 3) := by decide +kernel
theorem dX12_sure_145 : decode cX12_sure 145 = .ok (.iconst 0, 1) := by decide +kernel
theorem dX12_sure_146 : decode cX12_sure 146 = .ok (.iload 10, 2) := by decide +kernel
theorem dX12_sure_148 : decode cX12_sure 148 = .ok (.iadd, 1) := by decide +kernel
theorem dX12_sure_149 : decode cX12_sure 149 = .ok (.iaload, 1) := by decide +kernel
theorem dX12_sure_150 : decode cX12_sure 150 = .ok (.iadd, 1) := by decide +kernel
theorem dX12_sure_151 : decode cX12_sure 151 = .ok (.dup2, 1) := by decide +kernel
theorem dX12_sure_152 : decode cX12_sure 152 = .ok (.iaload, 1) := by decide +kernel
theorem dX12_sure_153 : decode cX12_sure 153 = .ok (.iload 7, 2) := by decide +kernel
theorem dX12_sure_155 : decode cX12_sure 155 = .ok (.iload 10, 2) := by decide +kernel
theorem dX12_sure_157 : decode cX12_sure 157 = .ok (.invokestatic 366, 3) := by decide +kernel
theorem dX12_sure_160 : decode cX12_sure 160 = .ok (.ifCond .eq 7, 3) := by decide +kernel
theorem dX12_sure_163 : decode cX12_sure 163 = .ok (.iconst 1, 1) := by decide +kernel
theorem dX12_sure_164 : decode cX12_sure 164 = .ok (.goto 4, 3) := by decide +kernel
theorem dX12_sure_167 : decode cX12_sure 167 = .ok (.iconst 0, 1) := by decide +kernel
theorem dX12_sure_168 : decode cX12_sure 168 = .ok (.iadd, 1) := by decide +kernel
theorem dX12_sure_169 : decode cX12_sure 169 = .ok (.iastore, 1) := by decide +kernel
theorem dX12_sure_170 : decode cX12_sure 170 = .ok (.iinc 10 1, 3) := by decide +kernel
theorem dX12_sure_173 : decode cX12_sure 173 = .ok (.goto (-70), 3) := by decide +kernel
theorem dX12_sure_176 : decode cX12_sure 176 = .ok (.lload 5, 2) := by decide +kernel
theorem dX12_sure_178 : decode cX12_sure 178 = .ok (.aload_n 0, 1) := by decide +kernel
theorem dX12_sure_179 : decode cX12_sure 179 = .ok (.aload_n 0, 1) := by decide +kernel
theorem dX12_sure_180 : decode cX12_sure 180 = .ok (.getfield 70, 3) := by decide +kernel
theorem dX12_sure_183 : decode cX12_sure 183 = .ok (.iload_n 1, 1) := by decide +kernel
theorem dX12_sure_184 : decode cX12_sure 184 = .ok (.invokevirtual 303, 3) := by decide +kernel
theorem dX12_sure_187 : decode cX12_sure 187 = .ok (.ifCond .eq 8, 3) := by decide +kernel
theorem dX12_sure_190 : decode cX12_sure 190 = .ok (.lload 8, 2) := by decide +kernel
theorem dX12_sure_192 : decode cX12_sure 192 = .ok (.goto 4, 3) := by decide +kernel
theorem dX12_sure_195 : decode cX12_sure 195 = .ok (.lconst 0, 1) := by decide +kernel
theorem dX12_sure_196 : decode cX12_sure 196 = .ok (.ladd, 1) := by decide +kernel
theorem dX12_sure_197 : decode cX12_sure 197 = .ok (.lstore 5, 2) := by decide +kernel
theorem dX12_sure_199 : decode cX12_sure 199 = .ok (.iinc 7 1, 3) := by decide +kernel
theorem dX12_sure_202 : decode cX12_sure 202 = .ok (.goto (-125), 3) := by decide +kernel
theorem dX12_sure_205 : decode cX12_sure 205 = .ok (.lload 5, 2) := by decide +kernel
theorem dX12_sure_207 : decode cX12_sure 207 = .ok (.lconst 1, 1) := by decide +kernel
theorem dX12_sure_208 : decode cX12_sure 208 = .ok (.iconst 4, 1) := by decide +kernel
theorem dX12_sure_209 : decode cX12_sure 209 = .ok (.iload 4, 2) := by decide +kernel
theorem dX12_sure_211 : decode cX12_sure 211 = .ok (.imul, 1) := by decide +kernel
theorem dX12_sure_212 : decode cX12_sure 212 = .ok (.lshl, 1) := by decide +kernel
theorem dX12_sure_213 : decode cX12_sure 213 = .ok (.iload_n 3, 1) := by decide +kernel
theorem dX12_sure_214 : decode cX12_sure 214 = .ok (.invokestatic 400, 3) := by decide +kernel
theorem dX12_sure_217 : decode cX12_sure 217 = .ok (.lreturn, 1) := by decide +kernel
theorem dX12_comes_0 : decode cX12_comes 0 = .ok (.aload_n 0, 1) := by decide +kernel
theorem dX12_comes_1 : decode cX12_comes 1 = .ok (.getfield 67, 3) := by decide +kernel
theorem dX12_comes_4 : decode cX12_comes 4 = .ok (.aload_n 0, 1) := by decide +kernel
theorem dX12_comes_5 : decode cX12_comes 5 = .ok (.getfield 70, 3) := by decide +kernel
theorem dX12_comes_8 : decode cX12_comes 8 = .ok (.invokestatic 347, 3) := by decide +kernel
theorem dX12_comes_11 : decode cX12_comes 11 = .ok (.iload_n 1, 1) := by decide +kernel
theorem dX12_comes_12 : decode cX12_comes 12 = .ok (.bipush 8, 2) := by decide +kernel
theorem dX12_comes_14 : decode cX12_comes 14 = .ok (.if_icmp .eq 23, 3) := by decide +kernel
theorem dX12_comes_17 : decode cX12_comes 17 = .ok (.aload_n 0, 1) := by decide +kernel
theorem dX12_comes_18 : decode cX12_comes 18 = .ok (.getfield 70, 3) := by decide +kernel
theorem dX12_comes_21 : decode cX12_comes 21 = .ok (.bipush 12, 2) := by decide +kernel
theorem dX12_comes_23 : decode cX12_comes 23 = .ok (.aload_n 0, 1) := by decide +kernel
theorem dX12_comes_24 : decode cX12_comes 24 = .ok (.getfield 67, 3) := by decide +kernel
theorem dX12_comes_27 : decode cX12_comes 27 = .ok (.iconst 0, 1) := by decide +kernel
theorem dX12_comes_28 : decode cX12_comes 28 = .ok (.iload_n 1, 1) := by decide +kernel
theorem dX12_comes_29 : decode cX12_comes 29 = .ok (.iadd, 1) := by decide +kernel
theorem dX12_comes_30 : decode cX12_comes 30 = .ok (.iaload, 1) := by decide +kernel
theorem dX12_comes_31 : decode cX12_comes 31 = .ok (.iadd, 1) := by decide +kernel
theorem dX12_comes_32 : decode cX12_comes 32 = .ok (.dup2, 1) := by decide +kernel
theorem dX12_comes_33 : decode cX12_comes 33 = .ok (.iaload, 1) := by decide +kernel
theorem dX12_comes_34 : decode cX12_comes 34 = .ok (.iconst 1, 1) := by decide +kernel
theorem dX12_comes_35 : decode cX12_comes 35 = .ok (.iadd, 1) := by decide +kernel
theorem dX12_comes_36 : decode cX12_comes 36 = .ok (.iastore, 1) := by decide +kernel
theorem dX12_comes_37 : decode cX12_comes 37 = .ok (.iload_n 2, 1) := by decide +kernel
theorem dX12_comes_38 : decode cX12_comes 38 = .ok (.bipush 8, 2) := by decide +kernel
theorem dX12_comes_40 : decode cX12_comes 40 = .ok (.if_icmp .eq 23, 3) := by decide +kernel
theorem dX12_comes_43 : decode cX12_comes 43 = .ok (.aload_n 0, 1) := by decide +kernel
theorem dX12_comes_44 : decode cX12_comes 44 = .ok (.getfield 70, 3) := by decide +kernel
theorem dX12_comes_47 : decode cX12_comes 47 = .ok (.bipush 12, 2) := by decide +kernel
theorem dX12_comes_49 : decode cX12_comes 49 = .ok (.aload_n 0, 1) := by decide +kernel
theorem dX12_comes_50 : decode cX12_comes 50 = .ok (.getfield 67, 3) := by decide +kernel
theorem dX12_comes_53 : decode cX12_comes 53 = .ok (.iconst 0, 1) := by decide +kernel
theorem dX12_comes_54 : decode cX12_comes 54 = .ok (.iload_n 2, 1) := by decide +kernel
theorem dX12_comes_55 : decode cX12_comes 55 = .ok (.iadd, 1) := by decide +kernel
theorem dX12_comes_56 : decode cX12_comes 56 = .ok (.iaload, 1) := by decide +kernel
theorem dX12_comes_57 : decode cX12_comes 57 = .ok (.iadd, 1) := by decide +kernel
theorem dX12_comes_58 : decode cX12_comes 58 = .ok (.dup2, 1) := by decide +kernel
theorem dX12_comes_59 : decode cX12_comes 59 = .ok (.iaload, 1) := by decide +kernel
theorem dX12_comes_60 : decode cX12_comes 60 = .ok (.iconst 1, 1) := by decide +kernel
theorem dX12_comes_61 : decode cX12_comes 61 = .ok (.isub, 1) := by decide +kernel
theorem dX12_comes_62 : decode cX12_comes 62 = .ok (.iastore, 1) := by decide +kernel
theorem dX12_comes_63 : decode cX12_comes 63 = .ok (.aload_n 0, 1) := by decide +kernel
theorem dX12_comes_64 : decode cX12_comes 64 = .ok (.aload_n 0, 1) := by decide +kernel
theorem dX12_comes_65 : decode cX12_comes 65 = .ok (.getfield 70, 3) := by decide +kernel
theorem dX12_comes_68 : decode cX12_comes 68 = .ok (.invokevirtual 300, 3) := by decide +kernel
theorem dX12_comes_71 : decode cX12_comes 71 = .ok (.ireturn, 1) := by decide +kernel
theorem dX12_streetHas_0 : decode cX12_streetHas 0 = .ok (.iload_n 3, 1) := by decide +kernel
theorem dX12_streetHas_1 : decode cX12_streetHas 1 = .ok (.aload_n 0, 1) := by decide +kernel
theorem dX12_streetHas_2 : decode cX12_streetHas 2 = .ok (.iload_n 1, 1) := by decide +kernel
theorem dX12_streetHas_3 : decode cX12_streetHas 3 = .ok (.iload_n 2, 1) := by decide +kernel
theorem dX12_streetHas_4 : decode cX12_streetHas 4 = .ok (.invokevirtual 404, 3) := by decide +kernel
theorem dX12_streetHas_7 : decode cX12_streetHas 7 = .ok (.isub, 1) := by decide +kernel
theorem dX12_streetHas_8 : decode cX12_streetHas 8 = .ok (.iload_n 1, 1) := by decide +kernel
theorem dX12_streetHas_9 : decode cX12_streetHas 9 = .ok (.bipush 8, 2) := by decide +kernel
theorem dX12_streetHas_11 : decode cX12_streetHas 11 = .ok (.if_icmp .ne 7, 3) := by decide +kernel
theorem dX12_streetHas_14 : decode cX12_streetHas 14 = .ok (.iconst 0, 1) := by decide +kernel
theorem dX12_streetHas_15 : decode cX12_streetHas 15 = .ok (.goto 5, 3) := by decide +kernel
theorem dX12_streetHas_18 : decode cX12_streetHas 18 = .ok (.iload 4, 2) := by decide +kernel
theorem dX12_streetHas_20 : decode cX12_streetHas 20 = .ok (.isub, 1) := by decide +kernel
theorem dX12_streetHas_21 : decode cX12_streetHas 21 = .ok (.ireturn, 1) := by decide +kernel
theorem dX12_houseHas_0 : decode cX12_houseHas 0 = .ok (.aload_n 0, 1) := by decide +kernel
theorem dX12_houseHas_1 : decode cX12_houseHas 1 = .ok (.iload_n 1, 1) := by decide +kernel
theorem dX12_houseHas_2 : decode cX12_houseHas 2 = .ok (.iload_n 2, 1) := by decide +kernel
theorem dX12_houseHas_3 : decode cX12_houseHas 3 = .ok (.invokevirtual 404, 3) := by decide +kernel
theorem dX12_houseHas_6 : decode cX12_houseHas 6 = .ok (.iload_n 2, 1) := by decide +kernel
theorem dX12_houseHas_7 : decode cX12_houseHas 7 = .ok (.bipush 8, 2) := by decide +kernel
theorem dX12_houseHas_9 : decode cX12_houseHas 9 = .ok (.if_icmp .ne 7, 3) := by decide +kernel
theorem dX12_houseHas_12 : decode cX12_houseHas 12 = .ok (.iconst 0, 1) := by decide +kernel
theorem dX12_houseHas_13 : decode cX12_houseHas 13 = .ok (.goto 4, 3) := by decide +kernel
theorem dX12_houseHas_16 : decode cX12_houseHas 16 = .ok (.iload_n 3, 1) := by decide +kernel
theorem dX12_houseHas_17 : decode cX12_houseHas 17 = .ok (.isub, 1) := by decide +kernel
theorem dX12_houseHas_18 : decode cX12_houseHas 18 = .ok (.ireturn, 1) := by decide +kernel
theorem dX12_isChoice_0 : decode cX12_isChoice 0 = .ok (.iload_n 1, 1) := by decide +kernel
theorem dX12_isChoice_1 : decode cX12_isChoice 1 = .ok (.bipush 8, 2) := by decide +kernel
theorem dX12_isChoice_3 : decode cX12_isChoice 3 = .ok (.if_icmp .eq 37, 3) := by decide +kernel
theorem dX12_isChoice_6 : decode cX12_isChoice 6 = .ok (.iload_n 1, 1) := by decide +kernel
theorem dX12_isChoice_7 : decode cX12_isChoice 7 = .ok (.aload_n 0, 1) := by decide +kernel
theorem dX12_isChoice_8 : decode cX12_isChoice 8 = .ok (.getfield 67, 3) := by decide +kernel
theorem dX12_isChoice_11 : decode cX12_isChoice 11 = .ok (.invokestatic 264, 3) := by decide +kernel
theorem dX12_isChoice_14 : decode cX12_isChoice 14 = .ok (.if_icmp .ge 30, 3) := by decide +kernel
theorem dX12_isChoice_17 : decode cX12_isChoice 17 = .ok (.iload_n 2, 1) := by decide +kernel
theorem dX12_isChoice_18 : decode cX12_isChoice 18 = .ok (.ifCond .eq 22, 3) := by decide +kernel
theorem dX12_isChoice_21 : decode cX12_isChoice 21 = .ok (.aload_n 0, 1) := by decide +kernel
theorem dX12_isChoice_22 : decode cX12_isChoice 22 = .ok (.getfield 67, 3) := by decide +kernel
theorem dX12_isChoice_25 : decode cX12_isChoice 25 = .ok (.bipush 12, 2) := by decide +kernel
theorem dX12_isChoice_27 : decode cX12_isChoice 27 = .ok (.aload_n 0, 1) := by decide +kernel
theorem dX12_isChoice_28 : decode cX12_isChoice 28 = .ok (.getfield 67, 3) := by decide +kernel
theorem dX12_isChoice_31 : decode cX12_isChoice 31 = .ok (.iconst 0, 1) := by decide +kernel
theorem dX12_isChoice_32 : decode cX12_isChoice 32 = .ok (.iload_n 1, 1) := by decide +kernel
theorem dX12_isChoice_33 : decode cX12_isChoice 33 = .ok (.iadd, 1) := by decide +kernel
theorem dX12_isChoice_34 : decode cX12_isChoice 34 = .ok (.iaload, 1) := by decide +kernel
theorem dX12_isChoice_35 : decode cX12_isChoice 35 = .ok (.iadd, 1) := by decide +kernel
theorem dX12_isChoice_36 : decode cX12_isChoice 36 = .ok (.iaload, 1) := by decide +kernel
theorem dX12_isChoice_37 : decode cX12_isChoice 37 = .ok (.ifCond .le 7, 3) := by decide +kernel
theorem dX12_isChoice_40 : decode cX12_isChoice 40 = .ok (.iconst 1, 1) := by decide +kernel
theorem dX12_isChoice_41 : decode cX12_isChoice 41 = .ok (.goto 4, 3) := by decide +kernel
theorem dX12_isChoice_44 : decode cX12_isChoice 44 = .ok (.iconst 0, 1) := by decide +kernel
theorem dX12_isChoice_45 : decode cX12_isChoice 45 = .ok (.ireturn, 1) := by decide +kernel
theorem dX12_isRest_0 : decode cX12_isRest 0 = .ok (.iconst 0, 1) := by decide +kernel
theorem dX12_isRest_1 : decode cX12_isRest 1 = .ok (.istore 5, 2) := by decide +kernel
theorem dX12_isRest_3 : decode cX12_isRest 3 = .ok (.iload 5, 2) := by decide +kernel
theorem dX12_isRest_5 : decode cX12_isRest 5 = .ok (.bipush 8, 2) := by decide +kernel
theorem dX12_isRest_7 : decode cX12_isRest 7 = .ok (.if_icmp .gt 75, 3) := by decide +kernel
theorem dX12_isRest_10 : decode cX12_isRest 10 = .ok (.aload_n 0, 1) := by decide +kernel
theorem dX12_isRest_11 : decode cX12_isRest 11 = .ok (.iload 5, 2) := by decide +kernel
theorem dX12_isRest_13 : decode cX12_isRest 13 = .ok (.iconst 0, 1) := by decide +kernel
theorem dX12_isRest_14 : decode cX12_isRest 14 = .ok (.invokevirtual 407, 3) := by decide +kernel
theorem dX12_isRest_17 : decode cX12_isRest 17 = .ok (.ifCond .eq 27, 3) := by decide +kernel
theorem dX12_isRest_20 : decode cX12_isRest 20 = .ok (.aload_n 0, 1) := by decide +kernel
theorem dX12_isRest_21 : decode cX12_isRest 21 = .ok (.iload 5, 2) := by decide +kernel
theorem dX12_isRest_23 : decode cX12_isRest 23 = .ok (.iload_n 2, 1) := by decide +kernel
theorem dX12_isRest_24 : decode cX12_isRest 24 = .ok (.iload_n 3, 1) := by decide +kernel
theorem dX12_isRest_25 : decode cX12_isRest 25 = .ok (.iload 4, 2) := by decide +kernel
theorem dX12_isRest_27 : decode cX12_isRest 27 = .ok (.invokevirtual 411, 3) := by decide +kernel
theorem dX12_isRest_30 : decode cX12_isRest 30 = .ok (.aload_n 0, 1) := by decide +kernel
theorem dX12_isRest_31 : decode cX12_isRest 31 = .ok (.iload_n 1, 1) := by decide +kernel
theorem dX12_isRest_32 : decode cX12_isRest 32 = .ok (.iload_n 2, 1) := by decide +kernel
theorem dX12_isRest_33 : decode cX12_isRest 33 = .ok (.iload_n 3, 1) := by decide +kernel
theorem dX12_isRest_34 : decode cX12_isRest 34 = .ok (.iload 4, 2) := by decide +kernel
theorem dX12_isRest_36 : decode cX12_isRest 36 = .ok (.invokevirtual 411, 3) := by decide +kernel
theorem dX12_isRest_39 : decode cX12_isRest 39 = .ok (.if_icmp .le 5, 3) := by decide +kernel
theorem dX12_isRest_42 : decode cX12_isRest 42 = .ok (.iconst 0, 1) := by decide +kernel
theorem dX12_isRest_43 : decode cX12_isRest 43 = .ok (.ireturn, 1) := by decide +kernel
theorem dX12_isRest_44 : decode cX12_isRest 44 = .ok (.aload_n 0, 1) := by decide +kernel
theorem dX12_isRest_45 : decode cX12_isRest 45 = .ok (.iload 5, 2) := by decide +kernel
theorem dX12_isRest_47 : decode cX12_isRest 47 = .ok (.iconst 1, 1) := by decide +kernel
theorem dX12_isRest_48 : decode cX12_isRest 48 = .ok (.invokevirtual 407, 3) := by decide +kernel
theorem dX12_isRest_51 : decode cX12_isRest 51 = .ok (.ifCond .eq 25, 3) := by decide +kernel
theorem dX12_isRest_54 : decode cX12_isRest 54 = .ok (.aload_n 0, 1) := by decide +kernel
theorem dX12_isRest_55 : decode cX12_isRest 55 = .ok (.iload_n 1, 1) := by decide +kernel
theorem dX12_isRest_56 : decode cX12_isRest 56 = .ok (.iload 5, 2) := by decide +kernel
theorem dX12_isRest_58 : decode cX12_isRest 58 = .ok (.iload 4, 2) := by decide +kernel
theorem dX12_isRest_60 : decode cX12_isRest 60 = .ok (.invokevirtual 415, 3) := by decide +kernel
theorem dX12_isRest_63 : decode cX12_isRest 63 = .ok (.aload_n 0, 1) := by decide +kernel
theorem dX12_isRest_64 : decode cX12_isRest 64 = .ok (.iload_n 1, 1) := by decide +kernel
theorem dX12_isRest_65 : decode cX12_isRest 65 = .ok (.iload_n 2, 1) := by decide +kernel
theorem dX12_isRest_66 : decode cX12_isRest 66 = .ok (.iload 4, 2) := by decide +kernel
theorem dX12_isRest_68 : decode cX12_isRest 68 = .ok (.invokevirtual 415, 3) := by decide +kernel
theorem dX12_isRest_71 : decode cX12_isRest 71 = .ok (.if_icmp .le 5, 3) := by decide +kernel
theorem dX12_isRest_74 : decode cX12_isRest 74 = .ok (.iconst 0, 1) := by decide +kernel
theorem dX12_isRest_75 : decode cX12_isRest 75 = .ok (.ireturn, 1) := by decide +kernel
theorem dX12_isRest_76 : decode cX12_isRest 76 = .ok (.iinc 5 1, 3) := by decide +kernel
theorem dX12_isRest_79 : decode cX12_isRest 79 = .ok (.goto (-76), 3) := by decide +kernel
theorem dX12_isRest_82 : decode cX12_isRest 82 = .ok (.iconst 1, 1) := by decide +kernel
theorem dX12_isRest_83 : decode cX12_isRest 83 = .ok (.ireturn, 1) := by decide +kernel
theorem dX12_street_0 : decode cX12_street 0 = .ok (.aload_n 0, 1) := by decide +kernel
theorem dX12_street_1 : decode cX12_street 1 = .ok (.iconst 0, 1) := by decide +kernel
theorem dX12_street_2 : decode cX12_street 2 = .ok (.putfield 103, 3) := by decide +kernel
theorem dX12_street_5 : decode cX12_street 5 = .ok (.aload_n 0, 1) := by decide +kernel
theorem dX12_street_6 : decode cX12_street 6 = .ok (.iload_n 1, 1) := by decide +kernel
theorem dX12_street_7 : decode cX12_street 7 = .ok (.iconst 0, 1) := by decide +kernel
theorem dX12_street_8 : decode cX12_street 8 = .ok (.bipush 99, 2) := by decide +kernel
theorem dX12_street_10 : decode cX12_street 10 = .ok (.invokestatic 137, 3) := by decide +kernel
theorem dX12_street_13 : decode cX12_street 13 = .ok (.ifCond .eq 22, 3) := by decide +kernel
theorem dX12_street_16 : decode cX12_street 16 = .ok (.iload_n 2, 1) := by decide +kernel
theorem dX12_street_17 : decode cX12_street 17 = .ok (.iconst 0, 1) := by decide +kernel
theorem dX12_street_18 : decode cX12_street 18 = .ok (.bipush 9, 2) := by decide +kernel
theorem dX12_street_20 : decode cX12_street 20 = .ok (.invokestatic 137, 3) := by decide +kernel
theorem dX12_street_23 : decode cX12_street 23 = .ok (.ifCond .eq 12, 3) := by decide +kernel
theorem dX12_street_26 : decode cX12_street 26 = .ok (.iload_n 3, 1) := by decide +kernel
theorem dX12_street_27 : decode cX12_street 27 = .ok (.iconst 0, 1) := by decide +kernel
theorem dX12_street_28 : decode cX12_street 28 = .ok (.iconst 2, 1) := by decide +kernel
theorem dX12_street_29 : decode cX12_street 29 = .ok (.invokestatic 137, 3) := by decide +kernel
theorem dX12_street_32 : decode cX12_street 32 = .ok (.ifCond .ne 7, 3) := by decide +kernel
theorem dX12_street_35 : decode cX12_street 35 = .ok (.iconst 1, 1) := by decide +kernel
theorem dX12_street_36 : decode cX12_street 36 = .ok (.goto 4, 3) := by decide +kernel
theorem dX12_street_39 : decode cX12_street 39 = .ok (.iconst 0, 1) := by decide +kernel
theorem dX12_street_40 : decode cX12_street 40 = .ok (.iconst 1, 1) := by decide +kernel
theorem dX12_street_41 : decode cX12_street 41 = .ok (.iconst 1, 1) := by decide +kernel
theorem dX12_street_42 : decode cX12_street 42 = .ok (.invokevirtual 182, 3) := by decide +kernel
theorem dX12_street_45 : decode cX12_street 45 = .ok (.ifCond .eq 5, 3) := by decide +kernel
theorem dX12_street_48 : decode cX12_street 48 = .ok (.iconst 0, 1) := by decide +kernel
theorem dX12_street_49 : decode cX12_street 49 = .ok (.ireturn, 1) := by decide +kernel
theorem dX12_street_50 : decode cX12_street 50 = .ok (.iconst 0, 1) := by decide +kernel
theorem dX12_street_51 : decode cX12_street 51 = .ok (.istore 4, 2) := by decide +kernel
theorem dX12_street_53 : decode cX12_street 53 = .ok (.iconst (-1), 1) := by decide +kernel
theorem dX12_street_54 : decode cX12_street 54 = .ok (.istore 5, 2) := by decide +kernel
theorem dX12_street_56 : decode cX12_street 56 = .ok (.iconst 0, 1) := by decide +kernel
theorem dX12_street_57 : decode cX12_street 57 = .ok (.istore 6, 2) := by decide +kernel
theorem dX12_street_59 : decode cX12_street 59 = .ok (.iconst 0, 1) := by decide +kernel
theorem dX12_street_60 : decode cX12_street 60 = .ok (.istore 7, 2) := by decide +kernel
theorem dX12_street_62 : decode cX12_street 62 = .ok (.iload 7, 2) := by decide +kernel
theorem dX12_street_64 : decode cX12_street 64 = .ok (.bipush 8, 2) := by decide +kernel
theorem dX12_street_66 : decode cX12_street 66 = .ok (.if_icmp .gt 116, 3) := by decide +kernel
theorem dX12_street_69 : decode cX12_street 69 = .ok (.iconst 0, 1) := by decide +kernel
theorem dX12_street_70 : decode cX12_street 70 = .ok (.istore 8, 2) := by decide +kernel
theorem dX12_street_72 : decode cX12_street 72 = .ok (.iload 8, 2) := by decide +kernel
theorem dX12_street_74 : decode cX12_street 74 = .ok (.bipush 8, 2) := by decide +kernel
theorem dX12_street_76 : decode cX12_street 76 = .ok (.if_icmp .gt 100, 3) := by decide +kernel
theorem dX12_street_79 : decode cX12_street 79 = .ok (.aload_n 0, 1) := by decide +kernel
theorem dX12_street_80 : decode cX12_street 80 = .ok (.iload 7, 2) := by decide +kernel
theorem dX12_street_82 : decode cX12_street 82 = .ok (.iconst 0, 1) := by decide +kernel
theorem dX12_street_83 : decode cX12_street 83 = .ok (.invokevirtual 407, 3) := by decide +kernel
theorem dX12_street_86 : decode cX12_street 86 = .ok (.ifCond .eq 84, 3) := by decide +kernel
theorem dX12_street_89 : decode cX12_street 89 = .ok (.aload_n 0, 1) := by decide +kernel
theorem dX12_street_90 : decode cX12_street 90 = .ok (.iload 8, 2) := by decide +kernel
theorem dX12_street_92 : decode cX12_street 92 = .ok (.iconst 1, 1) := by decide +kernel
theorem dX12_street_93 : decode cX12_street 93 = .ok (.invokevirtual 407, 3) := by decide +kernel
theorem dX12_street_96 : decode cX12_street 96 = .ok (.ifCond .eq 74, 3) := by decide +kernel
theorem dX12_street_99 : decode cX12_street 99 = .ok (.aload_n 0, 1) := by decide +kernel
theorem dX12_street_100 : decode cX12_street 100 = .ok (.iload 7, 2) := by decide +kernel
theorem dX12_street_102 : decode cX12_street 102 = .ok (.iload 8, 2) := by decide +kernel
theorem dX12_street_104 : decode cX12_street 104 = .ok (.iload_n 1, 1) := by decide +kernel
theorem dX12_street_105 : decode cX12_street 105 = .ok (.iload_n 2, 1) := by decide +kernel
theorem dX12_street_106 : decode cX12_street 106 = .ok (.invokevirtual 418, 3) := by decide +kernel
theorem dX12_street_109 : decode cX12_street 109 = .ok (.ifCond .ne 6, 3) := by decide +kernel
theorem dX12_street_112 : decode cX12_street 112 = .ok (.goto 58, 3) := by decide +kernel
theorem dX12_street_115 : decode cX12_street 115 = .ok (.iload 4, 2) := by decide +kernel
theorem dX12_street_117 : decode cX12_street 117 = .ok (.ifCond .ne 26, 3) := by decide +kernel
theorem dX12_street_120 : decode cX12_street 120 = .ok (.aload_n 0, 1) := by decide +kernel
theorem dX12_street_121 : decode cX12_street 121 = .ok (.iload 7, 2) := by decide +kernel
theorem dX12_street_123 : decode cX12_street 123 = .ok (.iload 8, 2) := by decide +kernel
theorem dX12_street_125 : decode cX12_street 125 = .ok (.iload_n 1, 1) := by decide +kernel
theorem dX12_street_126 : decode cX12_street 126 = .ok (.iload_n 2, 1) := by decide +kernel
theorem dX12_street_127 : decode cX12_street 127 = .ok (.invokevirtual 411, 3) := by decide +kernel
theorem dX12_street_130 : decode cX12_street 130 = .ok (.aload_n 0, 1) := by decide +kernel
theorem dX12_street_131 : decode cX12_street 131 = .ok (.iload 7, 2) := by decide +kernel
theorem dX12_street_133 : decode cX12_street 133 = .ok (.iload 8, 2) := by decide +kernel
theorem dX12_street_135 : decode cX12_street 135 = .ok (.iload_n 2, 1) := by decide +kernel
theorem dX12_street_136 : decode cX12_street 136 = .ok (.invokevirtual 415, 3) := by decide +kernel
theorem dX12_street_139 : decode cX12_street 139 = .ok (.iadd, 1) := by decide +kernel
theorem dX12_street_140 : decode cX12_street 140 = .ok (.goto 5, 3) := by decide +kernel
theorem dX12_street_143 : decode cX12_street 143 = .ok (.iload 6, 2) := by decide +kernel
theorem dX12_street_145 : decode cX12_street 145 = .ok (.istore 6, 2) := by decide +kernel
theorem dX12_street_147 : decode cX12_street 147 = .ok (.iload 4, 2) := by decide +kernel
theorem dX12_street_149 : decode cX12_street 149 = .ok (.ifCond .ne 14, 3) := by decide +kernel
theorem dX12_street_152 : decode cX12_street 152 = .ok (.bipush 10, 2) := by decide +kernel
theorem dX12_street_154 : decode cX12_street 154 = .ok (.iload 7, 2) := by decide +kernel
theorem dX12_street_156 : decode cX12_street 156 = .ok (.imul, 1) := by decide +kernel
theorem dX12_street_157 : decode cX12_street 157 = .ok (.iload 8, 2) := by decide +kernel
theorem dX12_street_159 : decode cX12_street 159 = .ok (.iadd, 1) := by decide +kernel
theorem dX12_street_160 : decode cX12_street 160 = .ok (.goto 5, 3) := by decide +kernel
theorem dX12_street_163 : decode cX12_street 163 = .ok (.iload 5, 2) := by decide +kernel
theorem dX12_street_165 : decode cX12_street 165 = .ok (.istore 5, 2) := by decide +kernel
theorem dX12_street_167 : decode cX12_street 167 = .ok (.iinc 4 1, 3) := by decide +kernel
theorem dX12_street_170 : decode cX12_street 170 = .ok (.iinc 8 1, 3) := by decide +kernel
theorem dX12_street_173 : decode cX12_street 173 = .ok (.goto (-101), 3) := by decide +kernel
theorem dX12_street_176 : decode cX12_street 176 = .ok (.iinc 7 1, 3) := by decide +kernel
theorem dX12_street_179 : decode cX12_street 179 = .ok (.goto (-117), 3) := by decide +kernel
theorem dX12_street_182 : decode cX12_street 182 = .ok (.iload_n 3, 1) := by decide +kernel
theorem dX12_street_183 : decode cX12_street 183 = .ok (.ifCond .ne 8, 3) := by decide +kernel
theorem dX12_street_186 : decode cX12_street 186 = .ok (.iload 4, 2) := by decide +kernel
theorem dX12_street_188 : decode cX12_street 188 = .ok (.goto 15, 3) := by decide +kernel
theorem dX12_street_191 : decode cX12_street 191 = .ok (.iload_n 3, 1) := by decide +kernel
theorem dX12_street_192 : decode cX12_street 192 = .ok (.iconst 1, 1) := by decide +kernel
theorem dX12_street_193 : decode cX12_street 193 = .ok (.if_icmp .ne 8, 3) := by decide +kernel
theorem dX12_street_196 : decode cX12_street 196 = .ok (.iload 5, 2) := by decide +kernel
theorem dX12_street_198 : decode cX12_street 198 = .ok (.goto 5, 3) := by decide +kernel
theorem dX12_street_201 : decode cX12_street 201 = .ok (.iload 6, 2) := by decide +kernel
theorem dX12_street_203 : decode cX12_street 203 = .ok (.ireturn, 1) := by decide +kernel
theorem dX12_givenBy_0 : decode cX12_givenBy 0 = .ok (.iconst 0, 1) := by decide +kernel
theorem dX12_givenBy_1 : decode cX12_givenBy 1 = .ok (.istore_n 3, 1) := by decide +kernel
theorem dX12_givenBy_2 : decode cX12_givenBy 2 = .ok (.iconst 0, 1) := by decide +kernel
theorem dX12_givenBy_3 : decode cX12_givenBy 3 = .ok (.istore 4, 2) := by decide +kernel
theorem dX12_givenBy_5 : decode cX12_givenBy 5 = .ok (.iload 4, 2) := by decide +kernel
theorem dX12_givenBy_7 : decode cX12_givenBy 7 = .ok (.aload_n 0, 1) := by decide +kernel
theorem dX12_givenBy_8 : decode cX12_givenBy 8 = .ok (.getfield 23, 3) := by decide +kernel
theorem dX12_givenBy_11 : decode cX12_givenBy 11 = .ok (.iconst 2, 1) := by decide +kernel
theorem dX12_givenBy_12 : decode cX12_givenBy 12 = .ok (.iaload, 1) := by decide +kernel
theorem dX12_givenBy_13 : decode cX12_givenBy 13 = .ok (.if_icmp .ge 38, 3) := by decide +kernel
theorem dX12_givenBy_16 : decode cX12_givenBy 16 = .ok (.iload_n 3, 1) := by decide +kernel
theorem dX12_givenBy_17 : decode cX12_givenBy 17 = .ok (.iload_n 1, 1) := by decide +kernel
theorem dX12_givenBy_18 : decode cX12_givenBy 18 = .ok (.iload 4, 2) := by decide +kernel
theorem dX12_givenBy_20 : decode cX12_givenBy 20 = .ok (.invokestatic 366, 3) := by decide +kernel
theorem dX12_givenBy_23 : decode cX12_givenBy 23 = .ok (.ifCond .eq 19, 3) := by decide +kernel
theorem dX12_givenBy_26 : decode cX12_givenBy 26 = .ok (.iload_n 2, 1) := by decide +kernel
theorem dX12_givenBy_27 : decode cX12_givenBy 27 = .ok (.aload_n 0, 1) := by decide +kernel
theorem dX12_givenBy_28 : decode cX12_givenBy 28 = .ok (.getfield 43, 3) := by decide +kernel
theorem dX12_givenBy_31 : decode cX12_givenBy 31 = .ok (.iload 4, 2) := by decide +kernel
theorem dX12_givenBy_33 : decode cX12_givenBy 33 = .ok (.aaload, 1) := by decide +kernel
theorem dX12_givenBy_34 : decode cX12_givenBy 34 = .ok (.iconst 1, 1) := by decide +kernel
theorem dX12_givenBy_35 : decode cX12_givenBy 35 = .ok (.iaload, 1) := by decide +kernel
theorem dX12_givenBy_36 : decode cX12_givenBy 36 = .ok (.invokestatic 245, 3) := by decide +kernel
theorem dX12_givenBy_39 : decode cX12_givenBy 39 = .ok (.goto 4, 3) := by decide +kernel
theorem dX12_givenBy_42 : decode cX12_givenBy 42 = .ok (.iconst 0, 1) := by decide +kernel
theorem dX12_givenBy_43 : decode cX12_givenBy 43 = .ok (.iadd, 1) := by decide +kernel
theorem dX12_givenBy_44 : decode cX12_givenBy 44 = .ok (.istore_n 3, 1) := by decide +kernel
theorem dX12_givenBy_45 : decode cX12_givenBy 45 = .ok (.iinc 4 1, 3) := by decide +kernel
theorem dX12_givenBy_48 : decode cX12_givenBy 48 = .ok (.goto (-43), 3) := by decide +kernel
theorem dX12_givenBy_51 : decode cX12_givenBy 51 = .ok (.iload_n 3, 1) := by decide +kernel
theorem dX12_givenBy_52 : decode cX12_givenBy 52 = .ok (.ireturn, 1) := by decide +kernel
theorem dX12_share_0 : decode cX12_share 0 = .ok (.aload_n 0, 1) := by decide +kernel
theorem dX12_share_1 : decode cX12_share 1 = .ok (.iconst 0, 1) := by decide +kernel
theorem dX12_share_2 : decode cX12_share 2 = .ok (.putfield 103, 3) := by decide +kernel
theorem dX12_share_5 : decode cX12_share 5 = .ok (.aload_n 0, 1) := by decide +kernel
theorem dX12_share_6 : decode cX12_share 6 = .ok (.aload_n 0, 1) := by decide +kernel
theorem dX12_share_7 : decode cX12_share 7 = .ok (.iload_n 1, 1) := by decide +kernel
theorem dX12_share_8 : decode cX12_share 8 = .ok (.invokevirtual 360, 3) := by decide +kernel
theorem dX12_share_11 : decode cX12_share 11 = .ok (.ifCond .ne 7, 3) := by decide +kernel
theorem dX12_share_14 : decode cX12_share 14 = .ok (.iconst 1, 1) := by decide +kernel
theorem dX12_share_15 : decode cX12_share 15 = .ok (.goto 4, 3) := by decide +kernel
theorem dX12_share_18 : decode cX12_share 18 = .ok (.iconst 0, 1) := by decide +kernel
theorem dX12_share_19 : decode cX12_share 19 = .ok (.iconst 1, 1) := by decide +kernel
theorem dX12_share_20 : decode cX12_share 20 = .ok (.iconst 0, 1) := by decide +kernel
theorem dX12_share_21 : decode cX12_share 21 = .ok (.invokevirtual 182, 3) := by decide +kernel
theorem dX12_share_24 : decode cX12_share 24 = .ok (.ifCond .ne 46, 3) := by decide +kernel
theorem dX12_share_27 : decode cX12_share 27 = .ok (.aload_n 0, 1) := by decide +kernel
theorem dX12_share_28 : decode cX12_share 28 = .ok (.iload_n 2, 1) := by decide +kernel
theorem dX12_share_29 : decode cX12_share 29 = .ok (.iconst 0, 1) := by decide +kernel
theorem dX12_share_30 : decode cX12_share 30 = .ok (.iconst 1, 1) := by decide +kernel
theorem dX12_share_31 : decode cX12_share 31 = .ok (.aload_n 0, 1) := by decide +kernel
theorem dX12_share_32 : decode cX12_share 32 = .ok (.getfield 23, 3) := by decide +kernel
theorem dX12_share_35 : decode cX12_share 35 = .ok (.iconst 2, 1) := by decide +kernel
theorem dX12_share_36 : decode cX12_share 36 = .ok (.iaload, 1) := by decide +kernel
theorem dX12_share_37 : decode cX12_share 37 = .ok (.ishl, 1) := by decide +kernel
theorem dX12_share_38 : decode cX12_share 38 = .ok (.iconst 1, 1) := by decide +kernel
theorem dX12_share_39 : decode cX12_share 39 = .ok (.isub, 1) := by decide +kernel
theorem dX12_share_40 : decode cX12_share 40 = .ok (.invokestatic 137, 3) := by decide +kernel
theorem dX12_share_43 : decode cX12_share 43 = .ok (.ifCond .eq 14, 3) := by decide +kernel
theorem dX12_share_46 : decode cX12_share 46 = .ok (.iload_n 3, 1) := by decide +kernel
theorem dX12_share_47 : decode cX12_share 47 = .ok (.iconst 0, 1) := by decide +kernel
theorem dX12_share_48 : decode cX12_share 48 = .ok (.sipush 999, 3) := by decide +kernel
theorem dX12_share_51 : decode cX12_share 51 = .ok (.invokestatic 137, 3) := by decide +kernel
theorem dX12_share_54 : decode cX12_share 54 = .ok (.ifCond .ne 7, 3) := by decide +kernel
theorem dX12_share_57 : decode cX12_share 57 = .ok (.iconst 1, 1) := by decide +kernel
theorem dX12_share_58 : decode cX12_share 58 = .ok (.goto 4, 3) := by decide +kernel
theorem dX12_share_61 : decode cX12_share 61 = .ok (.iconst 0, 1) := by decide +kernel
theorem dX12_share_62 : decode cX12_share 62 = .ok (.iconst 2, 1) := by decide +kernel
theorem dX12_share_63 : decode cX12_share 63 = .ok (.iconst 1, 1) := by decide +kernel
theorem dX12_share_64 : decode cX12_share 64 = .ok (.invokevirtual 182, 3) := by decide +kernel
theorem dX12_share_67 : decode cX12_share 67 = .ok (.ifCond .eq 5, 3) := by decide +kernel
theorem dX12_share_70 : decode cX12_share 70 = .ok (.iconst 0, 1) := by decide +kernel
theorem dX12_share_71 : decode cX12_share 71 = .ok (.ireturn, 1) := by decide +kernel
theorem dX12_share_72 : decode cX12_share 72 = .ok (.iconst 0, 1) := by decide +kernel
theorem dX12_share_73 : decode cX12_share 73 = .ok (.istore 4, 2) := by decide +kernel
theorem dX12_share_75 : decode cX12_share 75 = .ok (.iload 4, 2) := by decide +kernel
theorem dX12_share_77 : decode cX12_share 77 = .ok (.bipush 99, 2) := by decide +kernel
theorem dX12_share_79 : decode cX12_share 79 = .ok (.if_icmp .ge 22, 3) := by decide +kernel
theorem dX12_share_82 : decode cX12_share 82 = .ok (.aload_n 0, 1) := by decide +kernel
theorem dX12_share_83 : decode cX12_share 83 = .ok (.iload_n 2, 1) := by decide +kernel
theorem dX12_share_84 : decode cX12_share 84 = .ok (.iload 4, 2) := by decide +kernel
theorem dX12_share_86 : decode cX12_share 86 = .ok (.iconst 1, 1) := by decide +kernel
theorem dX12_share_87 : decode cX12_share 87 = .ok (.iadd, 1) := by decide +kernel
theorem dX12_share_88 : decode cX12_share 88 = .ok (.invokevirtual 422, 3) := by decide +kernel
theorem dX12_share_91 : decode cX12_share 91 = .ok (.iload_n 3, 1) := by decide +kernel
theorem dX12_share_92 : decode cX12_share 92 = .ok (.if_icmp .gt 9, 3) := by decide +kernel
theorem dX12_share_95 : decode cX12_share 95 = .ok (.iinc 4 1, 3) := by decide +kernel
theorem dX12_share_98 : decode cX12_share 98 = .ok (.goto (-23), 3) := by decide +kernel
theorem dX12_share_101 : decode cX12_share 101 = .ok (.iload_n 2, 1) := by decide +kernel
theorem dX12_share_102 : decode cX12_share 102 = .ok (.iload_n 1, 1) := by decide +kernel
theorem dX12_share_103 : decode cX12_share 103 = .ok (.invokestatic 366, 3) := by decide +kernel
theorem dX12_share_106 : decode cX12_share 106 = .ok (.ifCond .eq 19, 3) := by decide +kernel
theorem dX12_share_109 : decode cX12_share 109 = .ok (.iload 4, 2) := by decide +kernel
theorem dX12_share_111 : decode cX12_share 111 = .ok (.aload_n 0, 1) := by decide +kernel
theorem dX12_share_112 : decode cX12_share 112 = .ok (.getfield 43, 3) := by decide +kernel
theorem dX12_share_115 : decode cX12_share 115 = .ok (.iload_n 1, 1) := by decide +kernel
theorem dX12_share_116 : decode cX12_share 116 = .ok (.aaload, 1) := by decide +kernel
theorem dX12_share_117 : decode cX12_share 117 = .ok (.iconst 1, 1) := by decide +kernel
theorem dX12_share_118 : decode cX12_share 118 = .ok (.iaload, 1) := by decide +kernel
theorem dX12_share_119 : decode cX12_share 119 = .ok (.invokestatic 245, 3) := by decide +kernel
theorem dX12_share_122 : decode cX12_share 122 = .ok (.goto 4, 3) := by decide +kernel
theorem dX12_share_125 : decode cX12_share 125 = .ok (.iconst 0, 1) := by decide +kernel
theorem dX12_share_126 : decode cX12_share 126 = .ok (.ireturn, 1) := by decide +kernel
theorem dX12_next_0 : decode cX12_next 0 = .ok (.aload_n 0, 1) := by decide +kernel
theorem dX12_next_1 : decode cX12_next 1 = .ok (.iconst 0, 1) := by decide +kernel
theorem dX12_next_2 : decode cX12_next 2 = .ok (.putfield 103, 3) := by decide +kernel
theorem dX12_next_5 : decode cX12_next 5 = .ok (.aload_n 0, 1) := by decide +kernel
theorem dX12_next_6 : decode cX12_next 6 = .ok (.iload_n 1, 1) := by decide +kernel
theorem dX12_next_7 : decode cX12_next 7 = .ok (.iconst 0, 1) := by decide +kernel
theorem dX12_next_8 : decode cX12_next 8 = .ok (.iconst 1, 1) := by decide +kernel
theorem dX12_next_9 : decode cX12_next 9 = .ok (.invokestatic 137, 3) := by decide +kernel
theorem dX12_next_12 : decode cX12_next 12 = .ok (.ifCond .ne 7, 3) := by decide +kernel
theorem dX12_next_15 : decode cX12_next 15 = .ok (.iconst 1, 1) := by decide +kernel
theorem dX12_next_16 : decode cX12_next 16 = .ok (.goto 4, 3) := by decide +kernel
theorem dX12_next_19 : decode cX12_next 19 = .ok (.iconst 0, 1) := by decide +kernel
theorem dX12_next_20 : decode cX12_next 20 = .ok (.iconst 1, 1) := by decide +kernel
theorem dX12_next_21 : decode cX12_next 21 = .ok (.iconst 1, 1) := by decide +kernel
theorem dX12_next_22 : decode cX12_next 22 = .ok (.invokevirtual 182, 3) := by decide +kernel
theorem dX12_next_25 : decode cX12_next 25 = .ok (.ifCond .eq 5, 3) := by decide +kernel
theorem dX12_next_28 : decode cX12_next 28 = .ok (.iconst 0, 1) := by decide +kernel
theorem dX12_next_29 : decode cX12_next 29 = .ok (.ireturn, 1) := by decide +kernel
theorem dX12_next_30 : decode cX12_next 30 = .ok (.iconst 0, 1) := by decide +kernel
theorem dX12_next_31 : decode cX12_next 31 = .ok (.istore_n 2, 1) := by decide +kernel
theorem dX12_next_32 : decode cX12_next 32 = .ok (.iconst 0, 1) := by decide +kernel
theorem dX12_next_33 : decode cX12_next 33 = .ok (.istore_n 3, 1) := by decide +kernel
theorem dX12_next_34 : decode cX12_next 34 = .ok (.iload_n 3, 1) := by decide +kernel
theorem dX12_next_35 : decode cX12_next 35 = .ok (.aload_n 0, 1) := by decide +kernel
theorem dX12_next_36 : decode cX12_next 36 = .ok (.getfield 23, 3) := by decide +kernel
theorem dX12_next_39 : decode cX12_next 39 = .ok (.iconst 0, 1) := by decide +kernel
theorem dX12_next_40 : decode cX12_next 40 = .ok (.iaload, 1) := by decide +kernel
theorem dX12_next_41 : decode cX12_next 41 = .ok (.if_icmp .ge 58, 3) := by decide +kernel
theorem dX12_next_44 : decode cX12_next 44 = .ok (.iload_n 2, 1) := by decide +kernel
theorem dX12_next_45 : decode cX12_next 45 = .ok (.aload_n 0, 1) := by decide +kernel
theorem dX12_next_46 : decode cX12_next 46 = .ok (.aload_n 0, 1) := by decide +kernel
theorem dX12_next_47 : decode cX12_next 47 = .ok (.getfield 67, 3) := by decide +kernel
theorem dX12_next_50 : decode cX12_next 50 = .ok (.iload_n 3, 1) := by decide +kernel
theorem dX12_next_51 : decode cX12_next 51 = .ok (.iload_n 1, 1) := by decide +kernel
theorem dX12_next_52 : decode cX12_next 52 = .ok (.ifCond .ne 15, 3) := by decide +kernel
theorem dX12_next_55 : decode cX12_next 55 = .ok (.aload_n 0, 1) := by decide +kernel
theorem dX12_next_56 : decode cX12_next 56 = .ok (.getfield 67, 3) := by decide +kernel
theorem dX12_next_59 : decode cX12_next 59 = .ok (.bipush 6, 2) := by decide +kernel
theorem dX12_next_61 : decode cX12_next 61 = .ok (.iload_n 3, 1) := by decide +kernel
theorem dX12_next_62 : decode cX12_next 62 = .ok (.iadd, 1) := by decide +kernel
theorem dX12_next_63 : decode cX12_next 63 = .ok (.iaload, 1) := by decide +kernel
theorem dX12_next_64 : decode cX12_next 64 = .ok (.goto 14, 3) := by decide +kernel
theorem dX12_next_67 : decode cX12_next 67 = .ok (.iconst 1, 1) := by decide +kernel
theorem dX12_next_68 : decode cX12_next 68 = .ok (.aload_n 0, 1) := by decide +kernel
theorem dX12_next_69 : decode cX12_next 69 = .ok (.getfield 67, 3) := by decide +kernel
theorem dX12_next_72 : decode cX12_next 72 = .ok (.bipush 6, 2) := by decide +kernel
theorem dX12_next_74 : decode cX12_next 74 = .ok (.iload_n 3, 1) := by decide +kernel
theorem dX12_next_75 : decode cX12_next 75 = .ok (.iadd, 1) := by decide +kernel
theorem dX12_next_76 : decode cX12_next 76 = .ok (.iaload, 1) := by decide +kernel
theorem dX12_next_77 : decode cX12_next 77 = .ok (.isub, 1) := by decide +kernel
theorem dX12_next_78 : decode cX12_next 78 = .ok (.invokevirtual 310, 3) := by decide +kernel
theorem dX12_next_81 : decode cX12_next 81 = .ok (.ifCond .eq 9, 3) := by decide +kernel
theorem dX12_next_84 : decode cX12_next 84 = .ok (.iconst 1, 1) := by decide +kernel
theorem dX12_next_85 : decode cX12_next 85 = .ok (.iload_n 3, 1) := by decide +kernel
theorem dX12_next_86 : decode cX12_next 86 = .ok (.ishl, 1) := by decide +kernel
theorem dX12_next_87 : decode cX12_next 87 = .ok (.goto 4, 3) := by decide +kernel
theorem dX12_next_90 : decode cX12_next 90 = .ok (.iconst 0, 1) := by decide +kernel
theorem dX12_next_91 : decode cX12_next 91 = .ok (.ior, 1) := by decide +kernel
theorem dX12_next_92 : decode cX12_next 92 = .ok (.istore_n 2, 1) := by decide +kernel
theorem dX12_next_93 : decode cX12_next 93 = .ok (.iinc 3 1, 3) := by decide +kernel
theorem dX12_next_96 : decode cX12_next 96 = .ok (.goto (-62), 3) := by decide +kernel
theorem dX12_next_99 : decode cX12_next 99 = .ok (.iload_n 2, 1) := by decide +kernel
theorem dX12_next_100 : decode cX12_next 100 = .ok (.ireturn, 1) := by decide +kernel
theorem dX12_worst_0 : decode cX12_worst 0 = .ok (.aload_n 0, 1) := by decide +kernel
theorem dX12_worst_1 : decode cX12_worst 1 = .ok (.iconst 0, 1) := by decide +kernel
theorem dX12_worst_2 : decode cX12_worst 2 = .ok (.putfield 103, 3) := by decide +kernel
theorem dX12_worst_5 : decode cX12_worst 5 = .ok (.aload_n 0, 1) := by decide +kernel
theorem dX12_worst_6 : decode cX12_worst 6 = .ok (.iload_n 1, 1) := by decide +kernel
theorem dX12_worst_7 : decode cX12_worst 7 = .ok (.iconst 0, 1) := by decide +kernel
theorem dX12_worst_8 : decode cX12_worst 8 = .ok (.iconst 1, 1) := by decide +kernel
theorem dX12_worst_9 : decode cX12_worst 9 = .ok (.invokestatic 137, 3) := by decide +kernel
theorem dX12_worst_12 : decode cX12_worst 12 = .ok (.ifCond .ne 7, 3) := by decide +kernel
theorem dX12_worst_15 : decode cX12_worst 15 = .ok (.iconst 1, 1) := by decide +kernel
theorem dX12_worst_16 : decode cX12_worst 16 = .ok (.goto 4, 3) := by decide +kernel
theorem dX12_worst_19 : decode cX12_worst 19 = .ok (.iconst 0, 1) := by decide +kernel
theorem dX12_worst_20 : decode cX12_worst 20 = .ok (.iconst 1, 1) := by decide +kernel
theorem dX12_worst_21 : decode cX12_worst 21 = .ok (.iconst 1, 1) := by decide +kernel
theorem dX12_worst_22 : decode cX12_worst 22 = .ok (.invokevirtual 182, 3) := by decide +kernel
theorem dX12_worst_25 : decode cX12_worst 25 = .ok (.ifCond .eq 5, 3) := by decide +kernel
theorem dX12_worst_28 : decode cX12_worst 28 = .ok (.iconst 0, 1) := by decide +kernel
theorem dX12_worst_29 : decode cX12_worst 29 = .ok (.ireturn, 1) := by decide +kernel
theorem dX12_worst_30 : decode cX12_worst 30 = .ok (.iconst (-1), 1) := by decide +kernel
theorem dX12_worst_31 : decode cX12_worst 31 = .ok (.istore_n 2, 1) := by decide +kernel
theorem dX12_worst_32 : decode cX12_worst 32 = .ok (.iconst 0, 1) := by decide +kernel
theorem dX12_worst_33 : decode cX12_worst 33 = .ok (.istore_n 3, 1) := by decide +kernel
theorem dX12_worst_34 : decode cX12_worst 34 = .ok (.aload_n 0, 1) := by decide +kernel
theorem dX12_worst_35 : decode cX12_worst 35 = .ok (.aload_n 0, 1) := by decide +kernel
theorem dX12_worst_36 : decode cX12_worst 36 = .ok (.getfield 67, 3) := by decide +kernel
theorem dX12_worst_39 : decode cX12_worst 39 = .ok (.invokevirtual 300, 3) := by decide +kernel
theorem dX12_worst_42 : decode cX12_worst 42 = .ok (.pop, 1) := by decide +kernel
theorem dX12_worst_43 : decode cX12_worst 43 = .ok (.iconst 0, 1) := by decide +kernel
theorem dX12_worst_44 : decode cX12_worst 44 = .ok (.istore 4, 2) := by decide +kernel
theorem dX12_worst_46 : decode cX12_worst 46 = .ok (.iload 4, 2) := by decide +kernel
theorem dX12_worst_48 : decode cX12_worst 48 = .ok (.aload_n 0, 1) := by decide +kernel
theorem dX12_worst_49 : decode cX12_worst 49 = .ok (.getfield 67, 3) := by decide +kernel
theorem dX12_worst_52 : decode cX12_worst 52 = .ok (.invokestatic 264, 3) := by decide +kernel
theorem dX12_worst_55 : decode cX12_worst 55 = .ok (.if_icmp .ge 63, 3) := by decide +kernel
theorem dX12_worst_58 : decode cX12_worst 58 = .ok (.iload 4, 2) := by decide +kernel
theorem dX12_worst_60 : decode cX12_worst 60 = .ok (.ifCond .ne 13, 3) := by decide +kernel
theorem dX12_worst_63 : decode cX12_worst 63 = .ok (.aload_n 0, 1) := by decide +kernel
theorem dX12_worst_64 : decode cX12_worst 64 = .ok (.getfield 67, 3) := by decide +kernel
theorem dX12_worst_67 : decode cX12_worst 67 = .ok (.bipush 29, 2) := by decide +kernel
theorem dX12_worst_69 : decode cX12_worst 69 = .ok (.iaload, 1) := by decide +kernel
theorem dX12_worst_70 : decode cX12_worst 70 = .ok (.goto 12, 3) := by decide +kernel
theorem dX12_worst_73 : decode cX12_worst 73 = .ok (.aload_n 0, 1) := by decide +kernel
theorem dX12_worst_74 : decode cX12_worst 74 = .ok (.getfield 73, 3) := by decide +kernel
theorem dX12_worst_77 : decode cX12_worst 77 = .ok (.iload 4, 2) := by decide +kernel
theorem dX12_worst_79 : decode cX12_worst 79 = .ok (.iconst 1, 1) := by decide +kernel
theorem dX12_worst_80 : decode cX12_worst 80 = .ok (.isub, 1) := by decide +kernel
theorem dX12_worst_81 : decode cX12_worst 81 = .ok (.iaload, 1) := by decide +kernel
theorem dX12_worst_82 : decode cX12_worst 82 = .ok (.aload_n 0, 1) := by decide +kernel
theorem dX12_worst_83 : decode cX12_worst 83 = .ok (.getfield 73, 3) := by decide +kernel
theorem dX12_worst_86 : decode cX12_worst 86 = .ok (.iload 4, 2) := by decide +kernel
theorem dX12_worst_88 : decode cX12_worst 88 = .ok (.iaload, 1) := by decide +kernel
theorem dX12_worst_89 : decode cX12_worst 89 = .ok (.isub, 1) := by decide +kernel
theorem dX12_worst_90 : decode cX12_worst 90 = .ok (.istore 5, 2) := by decide +kernel
theorem dX12_worst_92 : decode cX12_worst 92 = .ok (.iload_n 2, 1) := by decide +kernel
theorem dX12_worst_93 : decode cX12_worst 93 = .ok (.iconst (-1), 1) := by decide +kernel
theorem dX12_worst_94 : decode cX12_worst 94 = .ok (.if_icmp .eq 12, 3) := by decide +kernel
theorem dX12_worst_97 : decode cX12_worst 97 = .ok (.iload 5, 2) := by decide +kernel
theorem dX12_worst_99 : decode cX12_worst 99 = .ok (.iload_n 3, 1) := by decide +kernel
theorem dX12_worst_100 : decode cX12_worst 100 = .ok (.if_icmp .gt 6, 3) := by decide +kernel
theorem dX12_worst_103 : decode cX12_worst 103 = .ok (.goto 9, 3) := by decide +kernel
theorem dX12_worst_106 : decode cX12_worst 106 = .ok (.iload 4, 2) := by decide +kernel
theorem dX12_worst_108 : decode cX12_worst 108 = .ok (.istore_n 2, 1) := by decide +kernel
theorem dX12_worst_109 : decode cX12_worst 109 = .ok (.iload 5, 2) := by decide +kernel
theorem dX12_worst_111 : decode cX12_worst 111 = .ok (.istore_n 3, 1) := by decide +kernel
theorem dX12_worst_112 : decode cX12_worst 112 = .ok (.iinc 4 1, 3) := by decide +kernel
theorem dX12_worst_115 : decode cX12_worst 115 = .ok (.goto (-69), 3) := by decide +kernel
theorem dX12_worst_118 : decode cX12_worst 118 = .ok (.iload_n 1, 1) := by decide +kernel
theorem dX12_worst_119 : decode cX12_worst 119 = .ok (.ifCond .ne 7, 3) := by decide +kernel
theorem dX12_worst_122 : decode cX12_worst 122 = .ok (.iload_n 2, 1) := by decide +kernel
theorem dX12_worst_123 : decode cX12_worst 123 = .ok (.goto 4, 3) := by decide +kernel
theorem dX12_worst_126 : decode cX12_worst 126 = .ok (.iload_n 3, 1) := by decide +kernel
theorem dX12_worst_127 : decode cX12_worst 127 = .ok (.ireturn, 1) := by decide +kernel
theorem dX12_needed_0 : decode cX12_needed 0 = .ok (.aload_n 0, 1) := by decide +kernel
theorem dX12_needed_1 : decode cX12_needed 1 = .ok (.iconst 0, 1) := by decide +kernel
theorem dX12_needed_2 : decode cX12_needed 2 = .ok (.putfield 103, 3) := by decide +kernel
theorem dX12_needed_5 : decode cX12_needed 5 = .ok (.aload_n 0, 1) := by decide +kernel
theorem dX12_needed_6 : decode cX12_needed 6 = .ok (.aload_n 0, 1) := by decide +kernel
theorem dX12_needed_7 : decode cX12_needed 7 = .ok (.iload_n 1, 1) := by decide +kernel
theorem dX12_needed_8 : decode cX12_needed 8 = .ok (.invokevirtual 360, 3) := by decide +kernel
theorem dX12_needed_11 : decode cX12_needed 11 = .ok (.ifCond .ne 7, 3) := by decide +kernel
theorem dX12_needed_14 : decode cX12_needed 14 = .ok (.iconst 1, 1) := by decide +kernel
theorem dX12_needed_15 : decode cX12_needed 15 = .ok (.goto 4, 3) := by decide +kernel
theorem dX12_needed_18 : decode cX12_needed 18 = .ok (.iconst 0, 1) := by decide +kernel
theorem dX12_needed_19 : decode cX12_needed 19 = .ok (.iconst 1, 1) := by decide +kernel
theorem dX12_needed_20 : decode cX12_needed 20 = .ok (.iconst 0, 1) := by decide +kernel
theorem dX12_needed_21 : decode cX12_needed 21 = .ok (.invokevirtual 182, 3) := by decide +kernel
theorem dX12_needed_24 : decode cX12_needed 24 = .ok (.ifCond .eq 5, 3) := by decide +kernel
theorem dX12_needed_27 : decode cX12_needed 27 = .ok (.iconst 0, 1) := by decide +kernel
theorem dX12_needed_28 : decode cX12_needed 28 = .ok (.ireturn, 1) := by decide +kernel
theorem dX12_needed_29 : decode cX12_needed 29 = .ok (.aload_n 0, 1) := by decide +kernel
theorem dX12_needed_30 : decode cX12_needed 30 = .ok (.getfield 67, 3) := by decide +kernel
theorem dX12_needed_33 : decode cX12_needed 33 = .ok (.aload_n 0, 1) := by decide +kernel
theorem dX12_needed_34 : decode cX12_needed 34 = .ok (.getfield 70, 3) := by decide +kernel
theorem dX12_needed_37 : decode cX12_needed 37 = .ok (.invokestatic 347, 3) := by decide +kernel
theorem dX12_needed_40 : decode cX12_needed 40 = .ok (.iconst 0, 1) := by decide +kernel
theorem dX12_needed_41 : decode cX12_needed 41 = .ok (.istore_n 2, 1) := by decide +kernel
theorem dX12_needed_42 : decode cX12_needed 42 = .ok (.iload_n 2, 1) := by decide +kernel
theorem dX12_needed_43 : decode cX12_needed 43 = .ok (.bipush 99, 2) := by decide +kernel
theorem dX12_needed_45 : decode cX12_needed 45 = .ok (.if_icmp .gt 31, 3) := by decide +kernel
theorem dX12_needed_48 : decode cX12_needed 48 = .ok (.aload_n 0, 1) := by decide +kernel
theorem dX12_needed_49 : decode cX12_needed 49 = .ok (.getfield 70, 3) := by decide +kernel
theorem dX12_needed_52 : decode cX12_needed 52 = .ok (.bipush 29, 2) := by decide +kernel
theorem dX12_needed_54 : decode cX12_needed 54 = .ok (.iload_n 2, 1) := by decide +kernel
theorem dX12_needed_55 : decode cX12_needed 55 = .ok (.iastore, 1) := by decide +kernel
theorem dX12_needed_56 : decode cX12_needed 56 = .ok (.aload_n 0, 1) := by decide +kernel
theorem dX12_needed_57 : decode cX12_needed 57 = .ok (.aload_n 0, 1) := by decide +kernel
theorem dX12_needed_58 : decode cX12_needed 58 = .ok (.getfield 70, 3) := by decide +kernel
theorem dX12_needed_61 : decode cX12_needed 61 = .ok (.iload_n 1, 1) := by decide +kernel
theorem dX12_needed_62 : decode cX12_needed 62 = .ok (.invokevirtual 303, 3) := by decide +kernel
theorem dX12_needed_65 : decode cX12_needed 65 = .ok (.ifCond .eq 5, 3) := by decide +kernel
theorem dX12_needed_68 : decode cX12_needed 68 = .ok (.iload_n 2, 1) := by decide +kernel
theorem dX12_needed_69 : decode cX12_needed 69 = .ok (.ireturn, 1) := by decide +kernel
theorem dX12_needed_70 : decode cX12_needed 70 = .ok (.iinc 2 1, 3) := by decide +kernel
theorem dX12_needed_73 : decode cX12_needed 73 = .ok (.goto (-31), 3) := by decide +kernel
theorem dX12_needed_76 : decode cX12_needed 76 = .ok (.iconst (-1), 1) := by decide +kernel
theorem dX12_needed_77 : decode cX12_needed 77 = .ok (.ireturn, 1) := by decide +kernel
theorem dX12_kin_0 : decode cX12_kin 0 = .ok (.aload_n 0, 1) := by decide +kernel
theorem dX12_kin_1 : decode cX12_kin 1 = .ok (.iconst 0, 1) := by decide +kernel
theorem dX12_kin_2 : decode cX12_kin 2 = .ok (.putfield 103, 3) := by decide +kernel
theorem dX12_kin_5 : decode cX12_kin 5 = .ok (.aload_n 0, 1) := by decide +kernel
theorem dX12_kin_6 : decode cX12_kin 6 = .ok (.iload_n 1, 1) := by decide +kernel
theorem dX12_kin_7 : decode cX12_kin 7 = .ok (.invokestatic 363, 3) := by decide +kernel
theorem dX12_kin_10 : decode cX12_kin 10 = .ok (.ifCond .ne 7, 3) := by decide +kernel
theorem dX12_kin_13 : decode cX12_kin 13 = .ok (.iconst 1, 1) := by decide +kernel
theorem dX12_kin_14 : decode cX12_kin 14 = .ok (.goto 4, 3) := by decide +kernel
theorem dX12_kin_17 : decode cX12_kin 17 = .ok (.iconst 0, 1) := by decide +kernel
theorem dX12_kin_18 : decode cX12_kin 18 = .ok (.iconst 1, 1) := by decide +kernel
theorem dX12_kin_19 : decode cX12_kin 19 = .ok (.iconst 1, 1) := by decide +kernel
theorem dX12_kin_20 : decode cX12_kin 20 = .ok (.invokevirtual 182, 3) := by decide +kernel
theorem dX12_kin_23 : decode cX12_kin 23 = .ok (.ifCond .eq 5, 3) := by decide +kernel
theorem dX12_kin_26 : decode cX12_kin 26 = .ok (.iconst 0, 1) := by decide +kernel
theorem dX12_kin_27 : decode cX12_kin 27 = .ok (.ireturn, 1) := by decide +kernel
theorem dX12_kin_28 : decode cX12_kin 28 = .ok (.iconst 0, 1) := by decide +kernel
theorem dX12_kin_29 : decode cX12_kin 29 = .ok (.istore_n 2, 1) := by decide +kernel
theorem dX12_kin_30 : decode cX12_kin 30 = .ok (.iconst 0, 1) := by decide +kernel
theorem dX12_kin_31 : decode cX12_kin 31 = .ok (.istore_n 3, 1) := by decide +kernel
theorem dX12_kin_32 : decode cX12_kin 32 = .ok (.iload_n 3, 1) := by decide +kernel
theorem dX12_kin_33 : decode cX12_kin 33 = .ok (.bipush 10, 2) := by decide +kernel
theorem dX12_kin_35 : decode cX12_kin 35 = .ok (.if_icmp .ge 28, 3) := by decide +kernel
theorem dX12_kin_38 : decode cX12_kin 38 = .ok (.iload_n 2, 1) := by decide +kernel
theorem dX12_kin_39 : decode cX12_kin 39 = .ok (.aload_n 0, 1) := by decide +kernel
theorem dX12_kin_40 : decode cX12_kin 40 = .ok (.iload_n 1, 1) := by decide +kernel
theorem dX12_kin_41 : decode cX12_kin 41 = .ok (.iload_n 3, 1) := by decide +kernel
theorem dX12_kin_42 : decode cX12_kin 42 = .ok (.invokevirtual 278, 3) := by decide +kernel
theorem dX12_kin_45 : decode cX12_kin 45 = .ok (.ifCond .eq 9, 3) := by decide +kernel
theorem dX12_kin_48 : decode cX12_kin 48 = .ok (.iconst 1, 1) := by decide +kernel
theorem dX12_kin_49 : decode cX12_kin 49 = .ok (.iload_n 3, 1) := by decide +kernel
theorem dX12_kin_50 : decode cX12_kin 50 = .ok (.ishl, 1) := by decide +kernel
theorem dX12_kin_51 : decode cX12_kin 51 = .ok (.goto 4, 3) := by decide +kernel
theorem dX12_kin_54 : decode cX12_kin 54 = .ok (.iconst 0, 1) := by decide +kernel
theorem dX12_kin_55 : decode cX12_kin 55 = .ok (.ior, 1) := by decide +kernel
theorem dX12_kin_56 : decode cX12_kin 56 = .ok (.istore_n 2, 1) := by decide +kernel
theorem dX12_kin_57 : decode cX12_kin 57 = .ok (.iinc 3 1, 3) := by decide +kernel
theorem dX12_kin_60 : decode cX12_kin 60 = .ok (.goto (-28), 3) := by decide +kernel
theorem dX12_kin_63 : decode cX12_kin 63 = .ok (.iload_n 2, 1) := by decide +kernel
theorem dX12_kin_64 : decode cX12_kin 64 = .ok (.ireturn, 1) := by decide +kernel
theorem dX12_draw_0 : decode cX12_draw 0 = .ok (.aload_n 0, 1) := by decide +kernel
theorem dX12_draw_1 : decode cX12_draw 1 = .ok (.aload_n 0, 1) := by decide +kernel
theorem dX12_draw_2 : decode cX12_draw 2 = .ok (.getfield 425, 3) := by decide +kernel
theorem dX12_draw_5 : decode cX12_draw 5 = .ok (.ldc_w 428, 3) := by decide +kernel
theorem dX12_draw_8 : decode cX12_draw 8 = .ok (.imul, 1) := by decide +kernel
theorem dX12_draw_9 : decode cX12_draw 9 = .ok (.sipush 12345, 3) := by decide +kernel
theorem dX12_draw_12 : decode cX12_draw 12 = .ok (.iadd, 1) := by decide +kernel
theorem dX12_draw_13 : decode cX12_draw 13 = .ok (.putfield 425, 3) := by decide +kernel
theorem dX12_draw_16 : decode cX12_draw 16 = .ok (.aload_n 0, 1) := by decide +kernel
theorem dX12_draw_17 : decode cX12_draw 17 = .ok (.getfield 425, 3) := by decide +kernel
theorem dX12_draw_20 : decode cX12_draw 20 = .ok (.bipush 16, 2) := by decide +kernel
theorem dX12_draw_22 : decode cX12_draw 22 = .ok (.ishr, 1) := by decide +kernel
theorem dX12_draw_23 : decode cX12_draw 23 = .ok (.sipush 32767, 3) := by decide +kernel
theorem dX12_draw_26 : decode cX12_draw 26 = .ok (.iand, 1) := by decide +kernel
theorem dX12_draw_27 : decode cX12_draw 27 = .ok (.iload_n 1, 1) := by decide +kernel
theorem dX12_draw_28 : decode cX12_draw 28 = .ok (.irem, 1) := by decide +kernel
theorem dX12_draw_29 : decode cX12_draw 29 = .ok (.ireturn, 1) := by decide +kernel
theorem dX12_acts_0 : decode cX12_acts 0 = .ok (.iload_n 3, 1) := by decide +kernel
theorem dX12_acts_1 : decode cX12_acts 1 = .ok (.lookupswitch 47 #[(0, 27), (1, 37)], 27) := by decide +kernel
theorem dX12_acts_28 : decode cX12_acts 28 = .ok (.aload_n 0, 1) := by decide +kernel
theorem dX12_acts_29 : decode cX12_acts 29 = .ok (.aload_n 1, 1) := by decide +kernel
theorem dX12_acts_30 : decode cX12_acts 30 = .ok (.iload_n 2, 1) := by decide +kernel
theorem dX12_acts_31 : decode cX12_acts 31 = .ok (.invokevirtual 317, 3) := by decide +kernel
theorem dX12_acts_34 : decode cX12_acts 34 = .ok (.pop, 1) := by decide +kernel
theorem dX12_acts_35 : decode cX12_acts 35 = .ok (.goto 29, 3) := by decide +kernel
theorem dX12_acts_38 : decode cX12_acts 38 = .ok (.aload_n 0, 1) := by decide +kernel
theorem dX12_acts_39 : decode cX12_acts 39 = .ok (.aload_n 1, 1) := by decide +kernel
theorem dX12_acts_40 : decode cX12_acts 40 = .ok (.iload_n 2, 1) := by decide +kernel
theorem dX12_acts_41 : decode cX12_acts 41 = .ok (.invokevirtual 314, 3) := by decide +kernel
theorem dX12_acts_44 : decode cX12_acts 44 = .ok (.pop, 1) := by decide +kernel
theorem dX12_acts_45 : decode cX12_acts 45 = .ok (.goto 19, 3) := by decide +kernel
theorem dX12_acts_48 : decode cX12_acts 48 = .ok (.aload_n 1, 1) := by decide +kernel
theorem dX12_acts_49 : decode cX12_acts 49 = .ok (.iload_n 2, 1) := by decide +kernel
theorem dX12_acts_50 : decode cX12_acts 50 = .ok (.iload_n 3, 1) := by decide +kernel
theorem dX12_acts_51 : decode cX12_acts 51 = .ok (.iconst 2, 1) := by decide +kernel
theorem dX12_acts_52 : decode cX12_acts 52 = .ok (.if_icmp .ne 7, 3) := by decide +kernel
theorem dX12_acts_55 : decode cX12_acts 55 = .ok (.iconst 1, 1) := by decide +kernel
theorem dX12_acts_56 : decode cX12_acts 56 = .ok (.goto 4, 3) := by decide +kernel
theorem dX12_acts_59 : decode cX12_acts 59 = .ok (.iconst (-1), 1) := by decide +kernel
theorem dX12_acts_60 : decode cX12_acts 60 = .ok (.invokestatic 327, 3) := by decide +kernel
theorem dX12_acts_63 : decode cX12_acts 63 = .ok (.pop, 1) := by decide +kernel
theorem dX12_acts_64 : decode cX12_acts 64 = .ok (.return_, 1) := by decide +kernel
theorem dX12_yearBy_0 : decode cX12_yearBy 0 = .ok (.aload_n 0, 1) := by decide +kernel
theorem dX12_yearBy_1 : decode cX12_yearBy 1 = .ok (.getfield 67, 3) := by decide +kernel
theorem dX12_yearBy_4 : decode cX12_yearBy 4 = .ok (.aload_n 0, 1) := by decide +kernel
theorem dX12_yearBy_5 : decode cX12_yearBy 5 = .ok (.getfield 70, 3) := by decide +kernel
theorem dX12_yearBy_8 : decode cX12_yearBy 8 = .ok (.invokestatic 347, 3) := by decide +kernel
theorem dX12_yearBy_11 : decode cX12_yearBy 11 = .ok (.aload_n 0, 1) := by decide +kernel
theorem dX12_yearBy_12 : decode cX12_yearBy 12 = .ok (.iload_n 1, 1) := by decide +kernel
theorem dX12_yearBy_13 : decode cX12_yearBy 13 = .ok (.putfield 425, 3) := by decide +kernel
theorem dX12_yearBy_16 : decode cX12_yearBy 16 = .ok (.aload_n 0, 1) := by decide +kernel
theorem dX12_yearBy_17 : decode cX12_yearBy 17 = .ok (.iconst 0, 1) := by decide +kernel
theorem dX12_yearBy_18 : decode cX12_yearBy 18 = .ok (.putfield 307, 3) := by decide +kernel
theorem dX12_yearBy_21 : decode cX12_yearBy 21 = .ok (.iconst 0, 1) := by decide +kernel
theorem dX12_yearBy_22 : decode cX12_yearBy 22 = .ok (.istore 4, 2) := by decide +kernel
theorem dX12_yearBy_24 : decode cX12_yearBy 24 = .ok (.iload 4, 2) := by decide +kernel
theorem dX12_yearBy_26 : decode cX12_yearBy 26 = .ok (.iload_n 2, 1) := by decide +kernel
theorem dX12_yearBy_27 : decode cX12_yearBy 27 = .ok (.if_icmp .ge 71, 3) := by decide +kernel
theorem dX12_yearBy_30 : decode cX12_yearBy 30 = .ok (.aload_n 0, 1) := by decide +kernel
theorem dX12_yearBy_31 : decode cX12_yearBy 31 = .ok (.getfield 23, 3) := by decide +kernel
theorem dX12_yearBy_34 : decode cX12_yearBy 34 = .ok (.iconst 0, 1) := by decide +kernel
theorem dX12_yearBy_35 : decode cX12_yearBy 35 = .ok (.iaload, 1) := by decide +kernel
theorem dX12_yearBy_36 : decode cX12_yearBy 36 = .ok (.ifCond .le 48, 3) := by decide +kernel
theorem dX12_yearBy_39 : decode cX12_yearBy 39 = .ok (.aload_n 0, 1) := by decide +kernel
theorem dX12_yearBy_40 : decode cX12_yearBy 40 = .ok (.aload_n 0, 1) := by decide +kernel
theorem dX12_yearBy_41 : decode cX12_yearBy 41 = .ok (.getfield 23, 3) := by decide +kernel
theorem dX12_yearBy_44 : decode cX12_yearBy 44 = .ok (.iconst 0, 1) := by decide +kernel
theorem dX12_yearBy_45 : decode cX12_yearBy 45 = .ok (.iaload, 1) := by decide +kernel
theorem dX12_yearBy_46 : decode cX12_yearBy 46 = .ok (.invokevirtual 429, 3) := by decide +kernel
theorem dX12_yearBy_49 : decode cX12_yearBy 49 = .ok (.istore 5, 2) := by decide +kernel
theorem dX12_yearBy_51 : decode cX12_yearBy 51 = .ok (.aload_n 0, 1) := by decide +kernel
theorem dX12_yearBy_52 : decode cX12_yearBy 52 = .ok (.aload_n 0, 1) := by decide +kernel
theorem dX12_yearBy_53 : decode cX12_yearBy 53 = .ok (.getfield 70, 3) := by decide +kernel
theorem dX12_yearBy_56 : decode cX12_yearBy 56 = .ok (.iload 5, 2) := by decide +kernel
theorem dX12_yearBy_58 : decode cX12_yearBy 58 = .ok (.aload_n 0, 1) := by decide +kernel
theorem dX12_yearBy_59 : decode cX12_yearBy 59 = .ok (.iconst 4, 1) := by decide +kernel
theorem dX12_yearBy_60 : decode cX12_yearBy 60 = .ok (.invokevirtual 429, 3) := by decide +kernel
theorem dX12_yearBy_63 : decode cX12_yearBy 63 = .ok (.invokevirtual 432, 3) := by decide +kernel
theorem dX12_yearBy_66 : decode cX12_yearBy 66 = .ok (.aload_n 0, 1) := by decide +kernel
theorem dX12_yearBy_67 : decode cX12_yearBy 67 = .ok (.bipush 16, 2) := by decide +kernel
theorem dX12_yearBy_69 : decode cX12_yearBy 69 = .ok (.invokevirtual 429, 3) := by decide +kernel
theorem dX12_yearBy_72 : decode cX12_yearBy 72 = .ok (.iload_n 3, 1) := by decide +kernel
theorem dX12_yearBy_73 : decode cX12_yearBy 73 = .ok (.if_icmp .ge 11, 3) := by decide +kernel
theorem dX12_yearBy_76 : decode cX12_yearBy 76 = .ok (.aload_n 0, 1) := by decide +kernel
theorem dX12_yearBy_77 : decode cX12_yearBy 77 = .ok (.getfield 70, 3) := by decide +kernel
theorem dX12_yearBy_80 : decode cX12_yearBy 80 = .ok (.invokestatic 320, 3) := by decide +kernel
theorem dX12_yearBy_83 : decode cX12_yearBy 83 = .ok (.pop, 1) := by decide +kernel
theorem dX12_yearBy_84 : decode cX12_yearBy 84 = .ok (.aload_n 0, 1) := by decide +kernel
theorem dX12_yearBy_85 : decode cX12_yearBy 85 = .ok (.aload_n 0, 1) := by decide +kernel
theorem dX12_yearBy_86 : decode cX12_yearBy 86 = .ok (.getfield 70, 3) := by decide +kernel
theorem dX12_yearBy_89 : decode cX12_yearBy 89 = .ok (.invokevirtual 330, 3) := by decide +kernel
theorem dX12_yearBy_92 : decode cX12_yearBy 92 = .ok (.iinc 4 1, 3) := by decide +kernel
theorem dX12_yearBy_95 : decode cX12_yearBy 95 = .ok (.goto (-71), 3) := by decide +kernel
theorem dX12_yearBy_98 : decode cX12_yearBy 98 = .ok (.return_, 1) := by decide +kernel
theorem dX12_isYear_0 : decode cX12_isYear 0 = .ok (.iload_n 0, 1) := by decide +kernel
theorem dX12_isYear_1 : decode cX12_isYear 1 = .ok (.iconst 1, 1) := by decide +kernel
theorem dX12_isYear_2 : decode cX12_isYear 2 = .ok (.bipush 96, 2) := by decide +kernel
theorem dX12_isYear_4 : decode cX12_isYear 4 = .ok (.invokestatic 137, 3) := by decide +kernel
theorem dX12_isYear_7 : decode cX12_isYear 7 = .ok (.ifCond .eq 17, 3) := by decide +kernel
theorem dX12_isYear_10 : decode cX12_isYear 10 = .ok (.iload_n 1, 1) := by decide +kernel
theorem dX12_isYear_11 : decode cX12_isYear 11 = .ok (.iconst 0, 1) := by decide +kernel
theorem dX12_isYear_12 : decode cX12_isYear 12 = .ok (.bipush 16, 2) := by decide +kernel
theorem dX12_isYear_14 : decode cX12_isYear 14 = .ok (.invokestatic 137, 3) := by decide +kernel
theorem dX12_isYear_17 : decode cX12_isYear 17 = .ok (.ifCond .eq 7, 3) := by decide +kernel
theorem dX12_isYear_20 : decode cX12_isYear 20 = .ok (.iconst 1, 1) := by decide +kernel
theorem dX12_isYear_21 : decode cX12_isYear 21 = .ok (.goto 4, 3) := by decide +kernel
theorem dX12_isYear_24 : decode cX12_isYear 24 = .ok (.iconst 0, 1) := by decide +kernel
theorem dX12_isYear_25 : decode cX12_isYear 25 = .ok (.ireturn, 1) := by decide +kernel
theorem dX12_year_0 : decode cX12_year 0 = .ok (.aload_n 0, 1) := by decide +kernel
theorem dX12_year_1 : decode cX12_year 1 = .ok (.iconst 0, 1) := by decide +kernel
theorem dX12_year_2 : decode cX12_year 2 = .ok (.putfield 103, 3) := by decide +kernel
theorem dX12_year_5 : decode cX12_year 5 = .ok (.aload_n 0, 1) := by decide +kernel
theorem dX12_year_6 : decode cX12_year 6 = .ok (.iload_n 2, 1) := by decide +kernel
theorem dX12_year_7 : decode cX12_year 7 = .ok (.iload_n 3, 1) := by decide +kernel
theorem dX12_year_8 : decode cX12_year 8 = .ok (.invokestatic 436, 3) := by decide +kernel
theorem dX12_year_11 : decode cX12_year 11 = .ok (.ifCond .eq 13, 3) := by decide +kernel
theorem dX12_year_14 : decode cX12_year 14 = .ok (.iload 4, 2) := by decide +kernel
theorem dX12_year_16 : decode cX12_year 16 = .ok (.iconst 0, 1) := by decide +kernel
theorem dX12_year_17 : decode cX12_year 17 = .ok (.iconst 3, 1) := by decide +kernel
theorem dX12_year_18 : decode cX12_year 18 = .ok (.invokestatic 137, 3) := by decide +kernel
theorem dX12_year_21 : decode cX12_year 21 = .ok (.ifCond .ne 7, 3) := by decide +kernel
theorem dX12_year_24 : decode cX12_year 24 = .ok (.iconst 1, 1) := by decide +kernel
theorem dX12_year_25 : decode cX12_year 25 = .ok (.goto 4, 3) := by decide +kernel
theorem dX12_year_28 : decode cX12_year 28 = .ok (.iconst 0, 1) := by decide +kernel
theorem dX12_year_29 : decode cX12_year 29 = .ok (.iconst 1, 1) := by decide +kernel
theorem dX12_year_30 : decode cX12_year 30 = .ok (.iconst 1, 1) := by decide +kernel
theorem dX12_year_31 : decode cX12_year 31 = .ok (.invokevirtual 182, 3) := by decide +kernel
theorem dX12_year_34 : decode cX12_year 34 = .ok (.ifCond .eq 5, 3) := by decide +kernel
theorem dX12_year_37 : decode cX12_year 37 = .ok (.iconst 0, 1) := by decide +kernel
theorem dX12_year_38 : decode cX12_year 38 = .ok (.ireturn, 1) := by decide +kernel
theorem dX12_year_39 : decode cX12_year 39 = .ok (.aload_n 0, 1) := by decide +kernel
theorem dX12_year_40 : decode cX12_year 40 = .ok (.iload_n 1, 1) := by decide +kernel
theorem dX12_year_41 : decode cX12_year 41 = .ok (.iload_n 2, 1) := by decide +kernel
theorem dX12_year_42 : decode cX12_year 42 = .ok (.iload_n 3, 1) := by decide +kernel
theorem dX12_year_43 : decode cX12_year 43 = .ok (.invokevirtual 439, 3) := by decide +kernel
theorem dX12_year_46 : decode cX12_year 46 = .ok (.iconst 0, 1) := by decide +kernel
theorem dX12_year_47 : decode cX12_year 47 = .ok (.istore 5, 2) := by decide +kernel
theorem dX12_year_49 : decode cX12_year 49 = .ok (.iconst 0, 1) := by decide +kernel
theorem dX12_year_50 : decode cX12_year 50 = .ok (.istore 6, 2) := by decide +kernel
theorem dX12_year_52 : decode cX12_year 52 = .ok (.iload 6, 2) := by decide +kernel
theorem dX12_year_54 : decode cX12_year 54 = .ok (.aload_n 0, 1) := by decide +kernel
theorem dX12_year_55 : decode cX12_year 55 = .ok (.getfield 23, 3) := by decide +kernel
theorem dX12_year_58 : decode cX12_year 58 = .ok (.iconst 0, 1) := by decide +kernel
theorem dX12_year_59 : decode cX12_year 59 = .ok (.iaload, 1) := by decide +kernel
theorem dX12_year_60 : decode cX12_year 60 = .ok (.if_icmp .ge 24, 3) := by decide +kernel
theorem dX12_year_63 : decode cX12_year 63 = .ok (.iload 5, 2) := by decide +kernel
theorem dX12_year_65 : decode cX12_year 65 = .ok (.aload_n 0, 1) := by decide +kernel
theorem dX12_year_66 : decode cX12_year 66 = .ok (.getfield 70, 3) := by decide +kernel
theorem dX12_year_69 : decode cX12_year 69 = .ok (.bipush 18, 2) := by decide +kernel
theorem dX12_year_71 : decode cX12_year 71 = .ok (.iload 6, 2) := by decide +kernel
theorem dX12_year_73 : decode cX12_year 73 = .ok (.iadd, 1) := by decide +kernel
theorem dX12_year_74 : decode cX12_year 74 = .ok (.iaload, 1) := by decide +kernel
theorem dX12_year_75 : decode cX12_year 75 = .ok (.iadd, 1) := by decide +kernel
theorem dX12_year_76 : decode cX12_year 76 = .ok (.istore 5, 2) := by decide +kernel
theorem dX12_year_78 : decode cX12_year 78 = .ok (.iinc 6 1, 3) := by decide +kernel
theorem dX12_year_81 : decode cX12_year 81 = .ok (.goto (-29), 3) := by decide +kernel
theorem dX12_year_84 : decode cX12_year 84 = .ok (.iload 4, 2) := by decide +kernel
theorem dX12_year_86 : decode cX12_year 86 = .ok (.tableswitch 49 0 2 #[26, 31, 40], 26) := by decide +kernel
theorem dX12_year_112 : decode cX12_year 112 = .ok (.aload_n 0, 1) := by decide +kernel
theorem dX12_year_113 : decode cX12_year 113 = .ok (.getfield 307, 3) := by decide +kernel
theorem dX12_year_116 : decode cX12_year 116 = .ok (.ireturn, 1) := by decide +kernel
theorem dX12_year_117 : decode cX12_year 117 = .ok (.aload_n 0, 1) := by decide +kernel
theorem dX12_year_118 : decode cX12_year 118 = .ok (.aload_n 0, 1) := by decide +kernel
theorem dX12_year_119 : decode cX12_year 119 = .ok (.getfield 70, 3) := by decide +kernel
theorem dX12_year_122 : decode cX12_year 122 = .ok (.invokevirtual 351, 3) := by decide +kernel
theorem dX12_year_125 : decode cX12_year 125 = .ok (.ireturn, 1) := by decide +kernel
theorem dX12_year_126 : decode cX12_year 126 = .ok (.aload_n 0, 1) := by decide +kernel
theorem dX12_year_127 : decode cX12_year 127 = .ok (.aload_n 0, 1) := by decide +kernel
theorem dX12_year_128 : decode cX12_year 128 = .ok (.getfield 70, 3) := by decide +kernel
theorem dX12_year_131 : decode cX12_year 131 = .ok (.invokevirtual 300, 3) := by decide +kernel
theorem dX12_year_134 : decode cX12_year 134 = .ok (.ireturn, 1) := by decide +kernel
theorem dX12_year_135 : decode cX12_year 135 = .ok (.iload 5, 2) := by decide +kernel
theorem dX12_year_137 : decode cX12_year 137 = .ok (.ireturn, 1) := by decide +kernel
theorem dX12_span_0 : decode cX12_span 0 = .ok (.aload_n 0, 1) := by decide +kernel
theorem dX12_span_1 : decode cX12_span 1 = .ok (.iconst 0, 1) := by decide +kernel
theorem dX12_span_2 : decode cX12_span 2 = .ok (.putfield 103, 3) := by decide +kernel
theorem dX12_span_5 : decode cX12_span 5 = .ok (.aload_n 0, 1) := by decide +kernel
theorem dX12_span_6 : decode cX12_span 6 = .ok (.iload_n 2, 1) := by decide +kernel
theorem dX12_span_7 : decode cX12_span 7 = .ok (.iconst 1, 1) := by decide +kernel
theorem dX12_span_8 : decode cX12_span 8 = .ok (.bipush 20, 2) := by decide +kernel
theorem dX12_span_10 : decode cX12_span 10 = .ok (.invokestatic 137, 3) := by decide +kernel
theorem dX12_span_13 : decode cX12_span 13 = .ok (.ifCond .eq 31, 3) := by decide +kernel
theorem dX12_span_16 : decode cX12_span 16 = .ok (.iload_n 3, 1) := by decide +kernel
theorem dX12_span_17 : decode cX12_span 17 = .ok (.iload 4, 2) := by decide +kernel
theorem dX12_span_19 : decode cX12_span 19 = .ok (.invokestatic 436, 3) := by decide +kernel
theorem dX12_span_22 : decode cX12_span 22 = .ok (.ifCond .eq 22, 3) := by decide +kernel
theorem dX12_span_25 : decode cX12_span 25 = .ok (.iload 5, 2) := by decide +kernel
theorem dX12_span_27 : decode cX12_span 27 = .ok (.iconst 0, 1) := by decide +kernel
theorem dX12_span_28 : decode cX12_span 28 = .ok (.iconst 2, 1) := by decide +kernel
theorem dX12_span_29 : decode cX12_span 29 = .ok (.invokestatic 137, 3) := by decide +kernel
theorem dX12_span_32 : decode cX12_span 32 = .ok (.ifCond .eq 12, 3) := by decide +kernel
theorem dX12_span_35 : decode cX12_span 35 = .ok (.aload_n 0, 1) := by decide +kernel
theorem dX12_span_36 : decode cX12_span 36 = .ok (.iload 6, 2) := by decide +kernel
theorem dX12_span_38 : decode cX12_span 38 = .ok (.invokevirtual 360, 3) := by decide +kernel
theorem dX12_span_41 : decode cX12_span 41 = .ok (.ifCond .ne 7, 3) := by decide +kernel
theorem dX12_span_44 : decode cX12_span 44 = .ok (.iconst 1, 1) := by decide +kernel
theorem dX12_span_45 : decode cX12_span 45 = .ok (.goto 4, 3) := by decide +kernel
theorem dX12_span_48 : decode cX12_span 48 = .ok (.iconst 0, 1) := by decide +kernel
theorem dX12_span_49 : decode cX12_span 49 = .ok (.iconst 1, 1) := by decide +kernel
theorem dX12_span_50 : decode cX12_span 50 = .ok (.iconst 1, 1) := by decide +kernel
theorem dX12_span_51 : decode cX12_span 51 = .ok (.invokevirtual 182, 3) := by decide +kernel
theorem dX12_span_54 : decode cX12_span 54 = .ok (.ifCond .eq 5, 3) := by decide +kernel
theorem dX12_span_57 : decode cX12_span 57 = .ok (.iconst 0, 1) := by decide +kernel
theorem dX12_span_58 : decode cX12_span 58 = .ok (.ireturn, 1) := by decide +kernel
theorem dX12_span_59 : decode cX12_span 59 = .ok (.iconst (-1), 1) := by decide +kernel
theorem dX12_span_60 : decode cX12_span 60 = .ok (.istore 7, 2) := by decide +kernel
theorem dX12_span_62 : decode cX12_span 62 = .ok (.iconst 0, 1) := by decide +kernel
theorem dX12_span_63 : decode cX12_span 63 = .ok (.istore 8, 2) := by decide +kernel
theorem dX12_span_65 : decode cX12_span 65 = .ok (.iconst 0, 1) := by decide +kernel
theorem dX12_span_66 : decode cX12_span 66 = .ok (.istore 9, 2) := by decide +kernel
theorem dX12_span_68 : decode cX12_span 68 = .ok (.iconst 0, 1) := by decide +kernel
theorem dX12_span_69 : decode cX12_span 69 = .ok (.istore 10, 2) := by decide +kernel
theorem dX12_span_71 : decode cX12_span 71 = .ok (.iload 10, 2) := by decide +kernel
theorem dX12_span_73 : decode cX12_span 73 = .ok (.iload_n 2, 1) := by decide +kernel
theorem dX12_span_74 : decode cX12_span 74 = .ok (.if_icmp .ge 84, 3) := by decide +kernel
theorem dX12_span_77 : decode cX12_span 77 = .ok (.aload_n 0, 1) := by decide +kernel
theorem dX12_span_78 : decode cX12_span 78 = .ok (.iload_n 1, 1) := by decide +kernel
theorem dX12_span_79 : decode cX12_span 79 = .ok (.iload 10, 2) := by decide +kernel
theorem dX12_span_81 : decode cX12_span 81 = .ok (.iadd, 1) := by decide +kernel
theorem dX12_span_82 : decode cX12_span 82 = .ok (.iload_n 3, 1) := by decide +kernel
theorem dX12_span_83 : decode cX12_span 83 = .ok (.iload 4, 2) := by decide +kernel
theorem dX12_span_85 : decode cX12_span 85 = .ok (.invokevirtual 439, 3) := by decide +kernel
theorem dX12_span_88 : decode cX12_span 88 = .ok (.aload_n 0, 1) := by decide +kernel
theorem dX12_span_89 : decode cX12_span 89 = .ok (.getfield 70, 3) := by decide +kernel
theorem dX12_span_92 : decode cX12_span 92 = .ok (.invokestatic 264, 3) := by decide +kernel
theorem dX12_span_95 : decode cX12_span 95 = .ok (.istore 11, 2) := by decide +kernel
theorem dX12_span_97 : decode cX12_span 97 = .ok (.iload 7, 2) := by decide +kernel
theorem dX12_span_99 : decode cX12_span 99 = .ok (.iconst (-1), 1) := by decide +kernel
theorem dX12_span_100 : decode cX12_span 100 = .ok (.if_icmp .ne 8, 3) := by decide +kernel
theorem dX12_span_103 : decode cX12_span 103 = .ok (.iload 11, 2) := by decide +kernel
theorem dX12_span_105 : decode cX12_span 105 = .ok (.goto 10, 3) := by decide +kernel
theorem dX12_span_108 : decode cX12_span 108 = .ok (.iload 7, 2) := by decide +kernel
theorem dX12_span_110 : decode cX12_span 110 = .ok (.iload 11, 2) := by decide +kernel
theorem dX12_span_112 : decode cX12_span 112 = .ok (.invokestatic 245, 3) := by decide +kernel
theorem dX12_span_115 : decode cX12_span 115 = .ok (.istore 7, 2) := by decide +kernel
theorem dX12_span_117 : decode cX12_span 117 = .ok (.iload 8, 2) := by decide +kernel
theorem dX12_span_119 : decode cX12_span 119 = .ok (.iload 11, 2) := by decide +kernel
theorem dX12_span_121 : decode cX12_span 121 = .ok (.invokestatic 248, 3) := by decide +kernel
theorem dX12_span_124 : decode cX12_span 124 = .ok (.istore 8, 2) := by decide +kernel
theorem dX12_span_126 : decode cX12_span 126 = .ok (.iload 9, 2) := by decide +kernel
theorem dX12_span_128 : decode cX12_span 128 = .ok (.aload_n 0, 1) := by decide +kernel
theorem dX12_span_129 : decode cX12_span 129 = .ok (.aload_n 0, 1) := by decide +kernel
theorem dX12_span_130 : decode cX12_span 130 = .ok (.getfield 70, 3) := by decide +kernel
theorem dX12_span_133 : decode cX12_span 133 = .ok (.invokevirtual 354, 3) := by decide +kernel
theorem dX12_span_136 : decode cX12_span 136 = .ok (.iload 6, 2) := by decide +kernel
theorem dX12_span_138 : decode cX12_span 138 = .ok (.invokestatic 366, 3) := by decide +kernel
theorem dX12_span_141 : decode cX12_span 141 = .ok (.ifCond .eq 7, 3) := by decide +kernel
theorem dX12_span_144 : decode cX12_span 144 = .ok (.iconst 1, 1) := by decide +kernel
theorem dX12_span_145 : decode cX12_span 145 = .ok (.goto 4, 3) := by decide +kernel
theorem dX12_span_148 : decode cX12_span 148 = .ok (.iconst 0, 1) := by decide +kernel
theorem dX12_span_149 : decode cX12_span 149 = .ok (.iadd, 1) := by decide +kernel
theorem dX12_span_150 : decode cX12_span 150 = .ok (.istore 9, 2) := by decide +kernel
theorem dX12_span_152 : decode cX12_span 152 = .ok (.iinc 10 1, 3) := by decide +kernel
theorem dX12_span_155 : decode cX12_span 155 = .ok (.goto (-84), 3) := by decide +kernel
theorem dX12_span_158 : decode cX12_span 158 = .ok (.iload 5, 2) := by decide +kernel
theorem dX12_span_160 : decode cX12_span 160 = .ok (.ifCond .ne 8, 3) := by decide +kernel
theorem dX12_span_163 : decode cX12_span 163 = .ok (.iload 7, 2) := by decide +kernel
theorem dX12_span_165 : decode cX12_span 165 = .ok (.goto 16, 3) := by decide +kernel
theorem dX12_span_168 : decode cX12_span 168 = .ok (.iload 5, 2) := by decide +kernel
theorem dX12_span_170 : decode cX12_span 170 = .ok (.iconst 1, 1) := by decide +kernel
theorem dX12_span_171 : decode cX12_span 171 = .ok (.if_icmp .ne 8, 3) := by decide +kernel
theorem dX12_span_174 : decode cX12_span 174 = .ok (.iload 8, 2) := by decide +kernel
theorem dX12_span_176 : decode cX12_span 176 = .ok (.goto 5, 3) := by decide +kernel
theorem dX12_span_179 : decode cX12_span 179 = .ok (.iload 9, 2) := by decide +kernel
theorem dX12_span_181 : decode cX12_span 181 = .ok (.ireturn, 1) := by decide +kernel
theorem dX12_puts_0 : decode cX12_puts 0 = .ok (.iload_n 3, 1) := by decide +kernel
theorem dX12_puts_1 : decode cX12_puts 1 = .ok (.ifCond .ne 10, 3) := by decide +kernel
theorem dX12_puts_4 : decode cX12_puts 4 = .ok (.aload_n 1, 1) := by decide +kernel
theorem dX12_puts_5 : decode cX12_puts 5 = .ok (.aload_n 0, 1) := by decide +kernel
theorem dX12_puts_6 : decode cX12_puts 6 = .ok (.getfield 443, 3) := by decide +kernel
theorem dX12_puts_9 : decode cX12_puts 9 = .ok (.iload_n 2, 1) := by decide +kernel
theorem dX12_puts_10 : decode cX12_puts 10 = .ok (.iastore, 1) := by decide +kernel
theorem dX12_puts_11 : decode cX12_puts 11 = .ok (.aload_n 0, 1) := by decide +kernel
theorem dX12_puts_12 : decode cX12_puts 12 = .ok (.dup, 1) := by decide +kernel
theorem dX12_puts_13 : decode cX12_puts 13 = .ok (.getfield 443, 3) := by decide +kernel
theorem dX12_puts_16 : decode cX12_puts 16 = .ok (.iconst 1, 1) := by decide +kernel
theorem dX12_puts_17 : decode cX12_puts 17 = .ok (.iadd, 1) := by decide +kernel
theorem dX12_puts_18 : decode cX12_puts 18 = .ok (.putfield 443, 3) := by decide +kernel
theorem dX12_puts_21 : decode cX12_puts 21 = .ok (.aload_n 1, 1) := by decide +kernel
theorem dX12_puts_22 : decode cX12_puts 22 = .ok (.aload_n 0, 1) := by decide +kernel
theorem dX12_puts_23 : decode cX12_puts 23 = .ok (.getfield 443, 3) := by decide +kernel
theorem dX12_puts_26 : decode cX12_puts 26 = .ok (.iconst 1, 1) := by decide +kernel
theorem dX12_puts_27 : decode cX12_puts 27 = .ok (.isub, 1) := by decide +kernel
theorem dX12_puts_28 : decode cX12_puts 28 = .ok (.iaload, 1) := by decide +kernel
theorem dX12_puts_29 : decode cX12_puts 29 = .ok (.ireturn, 1) := by decide +kernel
theorem dX12_putsAll_0 : decode cX12_putsAll 0 = .ok (.aload_n 0, 1) := by decide +kernel
theorem dX12_putsAll_1 : decode cX12_putsAll 1 = .ok (.iconst 0, 1) := by decide +kernel
theorem dX12_putsAll_2 : decode cX12_putsAll 2 = .ok (.putfield 443, 3) := by decide +kernel
theorem dX12_putsAll_5 : decode cX12_putsAll 5 = .ok (.aload_n 0, 1) := by decide +kernel
theorem dX12_putsAll_6 : decode cX12_putsAll 6 = .ok (.aload_n 0, 1) := by decide +kernel
theorem dX12_putsAll_7 : decode cX12_putsAll 7 = .ok (.aload_n 1, 1) := by decide +kernel
theorem dX12_putsAll_8 : decode cX12_putsAll 8 = .ok (.aload_n 0, 1) := by decide +kernel
theorem dX12_putsAll_9 : decode cX12_putsAll 9 = .ok (.getfield 208, 3) := by decide +kernel
theorem dX12_putsAll_12 : decode cX12_putsAll 12 = .ok (.iload_n 2, 1) := by decide +kernel
theorem dX12_putsAll_13 : decode cX12_putsAll 13 = .ok (.invokevirtual 446, 3) := by decide +kernel
theorem dX12_putsAll_16 : decode cX12_putsAll 16 = .ok (.putfield 208, 3) := by decide +kernel
theorem dX12_putsAll_19 : decode cX12_putsAll 19 = .ok (.iconst 0, 1) := by decide +kernel
theorem dX12_putsAll_20 : decode cX12_putsAll 20 = .ok (.istore_n 3, 1) := by decide +kernel
theorem dX12_putsAll_21 : decode cX12_putsAll 21 = .ok (.iload_n 3, 1) := by decide +kernel
theorem dX12_putsAll_22 : decode cX12_putsAll 22 = .ok (.bipush 31, 2) := by decide +kernel
theorem dX12_putsAll_24 : decode cX12_putsAll 24 = .ok (.if_icmp .ge 27, 3) := by decide +kernel
theorem dX12_putsAll_27 : decode cX12_putsAll 27 = .ok (.aload_n 0, 1) := by decide +kernel
theorem dX12_putsAll_28 : decode cX12_putsAll 28 = .ok (.getfield 67, 3) := by decide +kernel
theorem dX12_putsAll_31 : decode cX12_putsAll 31 = .ok (.iload_n 3, 1) := by decide +kernel
theorem dX12_putsAll_32 : decode cX12_putsAll 32 = .ok (.aload_n 0, 1) := by decide +kernel
theorem dX12_putsAll_33 : decode cX12_putsAll 33 = .ok (.aload_n 1, 1) := by decide +kernel
theorem dX12_putsAll_34 : decode cX12_putsAll 34 = .ok (.aload_n 0, 1) := by decide +kernel
theorem dX12_putsAll_35 : decode cX12_putsAll 35 = .ok (.getfield 67, 3) := by decide +kernel
theorem dX12_putsAll_38 : decode cX12_putsAll 38 = .ok (.iload_n 3, 1) := by decide +kernel
theorem dX12_putsAll_39 : decode cX12_putsAll 39 = .ok (.iaload, 1) := by decide +kernel
theorem dX12_putsAll_40 : decode cX12_putsAll 40 = .ok (.iload_n 2, 1) := by decide +kernel
theorem dX12_putsAll_41 : decode cX12_putsAll 41 = .ok (.invokevirtual 446, 3) := by decide +kernel
theorem dX12_putsAll_44 : decode cX12_putsAll 44 = .ok (.iastore, 1) := by decide +kernel
theorem dX12_putsAll_45 : decode cX12_putsAll 45 = .ok (.iinc 3 1, 3) := by decide +kernel
theorem dX12_putsAll_48 : decode cX12_putsAll 48 = .ok (.goto (-27), 3) := by decide +kernel
theorem dX12_putsAll_51 : decode cX12_putsAll 51 = .ok (.iconst 0, 1) := by decide +kernel
theorem dX12_putsAll_52 : decode cX12_putsAll 52 = .ok (.istore_n 3, 1) := by decide +kernel
theorem dX12_putsAll_53 : decode cX12_putsAll 53 = .ok (.iload_n 3, 1) := by decide +kernel
theorem dX12_putsAll_54 : decode cX12_putsAll 54 = .ok (.bipush 16, 2) := by decide +kernel
theorem dX12_putsAll_56 : decode cX12_putsAll 56 = .ok (.if_icmp .ge 49, 3) := by decide +kernel
theorem dX12_putsAll_59 : decode cX12_putsAll 59 = .ok (.iconst 0, 1) := by decide +kernel
theorem dX12_putsAll_60 : decode cX12_putsAll 60 = .ok (.istore 4, 2) := by decide +kernel
theorem dX12_putsAll_62 : decode cX12_putsAll 62 = .ok (.iload 4, 2) := by decide +kernel
theorem dX12_putsAll_64 : decode cX12_putsAll 64 = .ok (.bipush 31, 2) := by decide +kernel
theorem dX12_putsAll_66 : decode cX12_putsAll 66 = .ok (.if_icmp .ge 33, 3) := by decide +kernel
theorem dX12_putsAll_69 : decode cX12_putsAll 69 = .ok (.aload_n 0, 1) := by decide +kernel
theorem dX12_putsAll_70 : decode cX12_putsAll 70 = .ok (.getfield 76, 3) := by decide +kernel
theorem dX12_putsAll_73 : decode cX12_putsAll 73 = .ok (.iload_n 3, 1) := by decide +kernel
theorem dX12_putsAll_74 : decode cX12_putsAll 74 = .ok (.aaload, 1) := by decide +kernel
theorem dX12_putsAll_75 : decode cX12_putsAll 75 = .ok (.iload 4, 2) := by decide +kernel
theorem dX12_putsAll_77 : decode cX12_putsAll 77 = .ok (.aload_n 0, 1) := by decide +kernel
theorem dX12_putsAll_78 : decode cX12_putsAll 78 = .ok (.aload_n 1, 1) := by decide +kernel
theorem dX12_putsAll_79 : decode cX12_putsAll 79 = .ok (.aload_n 0, 1) := by decide +kernel
theorem dX12_putsAll_80 : decode cX12_putsAll 80 = .ok (.getfield 76, 3) := by decide +kernel
theorem dX12_putsAll_83 : decode cX12_putsAll 83 = .ok (.iload_n 3, 1) := by decide +kernel
theorem dX12_putsAll_84 : decode cX12_putsAll 84 = .ok (.aaload, 1) := by decide +kernel
theorem dX12_putsAll_85 : decode cX12_putsAll 85 = .ok (.iload 4, 2) := by decide +kernel
theorem dX12_putsAll_87 : decode cX12_putsAll 87 = .ok (.iaload, 1) := by decide +kernel
theorem dX12_putsAll_88 : decode cX12_putsAll 88 = .ok (.iload_n 2, 1) := by decide +kernel
theorem dX12_putsAll_89 : decode cX12_putsAll 89 = .ok (.invokevirtual 446, 3) := by decide +kernel
theorem dX12_putsAll_92 : decode cX12_putsAll 92 = .ok (.iastore, 1) := by decide +kernel
theorem dX12_putsAll_93 : decode cX12_putsAll 93 = .ok (.iinc 4 1, 3) := by decide +kernel
theorem dX12_putsAll_96 : decode cX12_putsAll 96 = .ok (.goto (-34), 3) := by decide +kernel
theorem dX12_putsAll_99 : decode cX12_putsAll 99 = .ok (.iinc 3 1, 3) := by decide +kernel
theorem dX12_putsAll_102 : decode cX12_putsAll 102 = .ok (.goto (-49), 3) := by decide +kernel
theorem dX12_putsAll_105 : decode cX12_putsAll 105 = .ok (.return_, 1) := by decide +kernel
theorem dX12_image_0 : decode cX12_image 0 = .ok (.aload_n 0, 1) := by decide +kernel
theorem dX12_image_1 : decode cX12_image 1 = .ok (.iconst 0, 1) := by decide +kernel
theorem dX12_image_2 : decode cX12_image 2 = .ok (.putfield 103, 3) := by decide +kernel
theorem dX12_image_5 : decode cX12_image 5 = .ok (.aload_n 0, 1) := by decide +kernel
theorem dX12_image_6 : decode cX12_image 6 = .ok (.getfield 214, 3) := by decide +kernel
theorem dX12_image_9 : decode cX12_image 9 = .ok (.iconst 3, 1) := by decide +kernel
theorem dX12_image_10 : decode cX12_image 10 = .ok (.if_icmp .ne 5, 3) := by decide +kernel
theorem dX12_image_13 : decode cX12_image 13 = .ok (.iconst (-1), 1) := by decide +kernel
theorem dX12_image_14 : decode cX12_image 14 = .ok (.ireturn, 1) := by decide +kernel
theorem dX12_image_15 : decode cX12_image 15 = .ok (.aload_n 0, 1) := by decide +kernel
theorem dX12_image_16 : decode cX12_image 16 = .ok (.aload_n 0, 1) := by decide +kernel
theorem dX12_image_17 : decode cX12_image 17 = .ok (.getfield 79, 3) := by decide +kernel
theorem dX12_image_20 : decode cX12_image 20 = .ok (.aload_n 0, 1) := by decide +kernel
theorem dX12_image_21 : decode cX12_image 21 = .ok (.getfield 214, 3) := by decide +kernel
theorem dX12_image_24 : decode cX12_image 24 = .ok (.aaload, 1) := by decide +kernel
theorem dX12_image_25 : decode cX12_image 25 = .ok (.iconst 0, 1) := by decide +kernel
theorem dX12_image_26 : decode cX12_image 26 = .ok (.invokevirtual 450, 3) := by decide +kernel
theorem dX12_image_29 : decode cX12_image 29 = .ok (.aload_n 0, 1) := by decide +kernel
theorem dX12_image_30 : decode cX12_image 30 = .ok (.dup, 1) := by decide +kernel
theorem dX12_image_31 : decode cX12_image 31 = .ok (.getfield 214, 3) := by decide +kernel
theorem dX12_image_34 : decode cX12_image 34 = .ok (.iconst 1, 1) := by decide +kernel
theorem dX12_image_35 : decode cX12_image 35 = .ok (.iadd, 1) := by decide +kernel
theorem dX12_image_36 : decode cX12_image 36 = .ok (.putfield 214, 3) := by decide +kernel
theorem dX12_image_39 : decode cX12_image 39 = .ok (.aload_n 0, 1) := by decide +kernel
theorem dX12_image_40 : decode cX12_image 40 = .ok (.getfield 214, 3) := by decide +kernel
theorem dX12_image_43 : decode cX12_image 43 = .ok (.ireturn, 1) := by decide +kernel
theorem dX12_restore_0 : decode cX12_restore 0 = .ok (.aload_n 0, 1) := by decide +kernel
theorem dX12_restore_1 : decode cX12_restore 1 = .ok (.iconst 0, 1) := by decide +kernel
theorem dX12_restore_2 : decode cX12_restore 2 = .ok (.putfield 103, 3) := by decide +kernel
theorem dX12_restore_5 : decode cX12_restore 5 = .ok (.aload_n 0, 1) := by decide +kernel
theorem dX12_restore_6 : decode cX12_restore 6 = .ok (.getfield 214, 3) := by decide +kernel
theorem dX12_restore_9 : decode cX12_restore 9 = .ok (.ifCond .ne 5, 3) := by decide +kernel
theorem dX12_restore_12 : decode cX12_restore 12 = .ok (.iconst (-1), 1) := by decide +kernel
theorem dX12_restore_13 : decode cX12_restore 13 = .ok (.ireturn, 1) := by decide +kernel
theorem dX12_restore_14 : decode cX12_restore 14 = .ok (.aload_n 0, 1) := by decide +kernel
theorem dX12_restore_15 : decode cX12_restore 15 = .ok (.dup, 1) := by decide +kernel
theorem dX12_restore_16 : decode cX12_restore 16 = .ok (.getfield 214, 3) := by decide +kernel
theorem dX12_restore_19 : decode cX12_restore 19 = .ok (.iconst 1, 1) := by decide +kernel
theorem dX12_restore_20 : decode cX12_restore 20 = .ok (.isub, 1) := by decide +kernel
theorem dX12_restore_21 : decode cX12_restore 21 = .ok (.putfield 214, 3) := by decide +kernel
theorem dX12_restore_24 : decode cX12_restore 24 = .ok (.aload_n 0, 1) := by decide +kernel
theorem dX12_restore_25 : decode cX12_restore 25 = .ok (.aload_n 0, 1) := by decide +kernel
theorem dX12_restore_26 : decode cX12_restore 26 = .ok (.getfield 79, 3) := by decide +kernel
theorem dX12_restore_29 : decode cX12_restore 29 = .ok (.aload_n 0, 1) := by decide +kernel
theorem dX12_restore_30 : decode cX12_restore 30 = .ok (.getfield 214, 3) := by decide +kernel
theorem dX12_restore_33 : decode cX12_restore 33 = .ok (.aaload, 1) := by decide +kernel
theorem dX12_restore_34 : decode cX12_restore 34 = .ok (.iconst 1, 1) := by decide +kernel
theorem dX12_restore_35 : decode cX12_restore 35 = .ok (.invokevirtual 450, 3) := by decide +kernel
theorem dX12_restore_38 : decode cX12_restore 38 = .ok (.aload_n 0, 1) := by decide +kernel
theorem dX12_restore_39 : decode cX12_restore 39 = .ok (.iconst 0, 1) := by decide +kernel
theorem dX12_restore_40 : decode cX12_restore 40 = .ok (.putfield 211, 3) := by decide +kernel
theorem dX12_restore_43 : decode cX12_restore 43 = .ok (.aload_n 0, 1) := by decide +kernel
theorem dX12_restore_44 : decode cX12_restore 44 = .ok (.getfield 214, 3) := by decide +kernel
theorem dX12_restore_47 : decode cX12_restore 47 = .ok (.ireturn, 1) := by decide +kernel
theorem dX12_status_0 : decode cX12_status 0 = .ok (.aload_n 0, 1) := by decide +kernel
theorem dX12_status_1 : decode cX12_status 1 = .ok (.iconst 0, 1) := by decide +kernel
theorem dX12_status_2 : decode cX12_status 2 = .ok (.putfield 103, 3) := by decide +kernel
theorem dX12_status_5 : decode cX12_status 5 = .ok (.iload_n 1, 1) := by decide +kernel
theorem dX12_status_6 : decode cX12_status 6 = .ok (.iconst 0, 1) := by decide +kernel
theorem dX12_status_7 : decode cX12_status 7 = .ok (.iconst 1, 1) := by decide +kernel
theorem dX12_status_8 : decode cX12_status 8 = .ok (.invokestatic 137, 3) := by decide +kernel
theorem dX12_status_11 : decode cX12_status 11 = .ok (.ifCond .eq 12, 3) := by decide +kernel
theorem dX12_status_14 : decode cX12_status 14 = .ok (.aload_n 0, 1) := by decide +kernel
theorem dX12_status_15 : decode cX12_status 15 = .ok (.getfield 17, 3) := by decide +kernel
theorem dX12_status_18 : decode cX12_status 18 = .ok (.iload_n 1, 1) := by decide +kernel
theorem dX12_status_19 : decode cX12_status 19 = .ok (.iaload, 1) := by decide +kernel
theorem dX12_status_20 : decode cX12_status 20 = .ok (.goto 4, 3) := by decide +kernel
theorem dX12_status_23 : decode cX12_status 23 = .ok (.iconst (-1), 1) := by decide +kernel
theorem dX12_status_24 : decode cX12_status 24 = .ok (.ireturn, 1) := by decide +kernel
theorem dX12_count_0 : decode cX12_count 0 = .ok (.aload_n 0, 1) := by decide +kernel
theorem dX12_count_1 : decode cX12_count 1 = .ok (.iconst 0, 1) := by decide +kernel
theorem dX12_count_2 : decode cX12_count 2 = .ok (.putfield 103, 3) := by decide +kernel
theorem dX12_count_5 : decode cX12_count 5 = .ok (.iload_n 1, 1) := by decide +kernel
theorem dX12_count_6 : decode cX12_count 6 = .ok (.ifCond .ne 10, 3) := by decide +kernel
theorem dX12_count_9 : decode cX12_count 9 = .ok (.aload_n 0, 1) := by decide +kernel
theorem dX12_count_10 : decode cX12_count 10 = .ok (.getfield 214, 3) := by decide +kernel
theorem dX12_count_13 : decode cX12_count 13 = .ok (.goto 28, 3) := by decide +kernel
theorem dX12_count_16 : decode cX12_count 16 = .ok (.iload_n 1, 1) := by decide +kernel
theorem dX12_count_17 : decode cX12_count 17 = .ok (.iconst 1, 1) := by decide +kernel
theorem dX12_count_18 : decode cX12_count 18 = .ok (.if_icmp .ne 10, 3) := by decide +kernel
theorem dX12_count_21 : decode cX12_count 21 = .ok (.aload_n 0, 1) := by decide +kernel
theorem dX12_count_22 : decode cX12_count 22 = .ok (.getfield 106, 3) := by decide +kernel
theorem dX12_count_25 : decode cX12_count 25 = .ok (.goto 16, 3) := by decide +kernel
theorem dX12_count_28 : decode cX12_count 28 = .ok (.iload_n 1, 1) := by decide +kernel
theorem dX12_count_29 : decode cX12_count 29 = .ok (.iconst 2, 1) := by decide +kernel
theorem dX12_count_30 : decode cX12_count 30 = .ok (.if_icmp .ne 10, 3) := by decide +kernel
theorem dX12_count_33 : decode cX12_count 33 = .ok (.aload_n 0, 1) := by decide +kernel
theorem dX12_count_34 : decode cX12_count 34 = .ok (.getfield 208, 3) := by decide +kernel
theorem dX12_count_37 : decode cX12_count 37 = .ok (.goto 4, 3) := by decide +kernel
theorem dX12_count_40 : decode cX12_count 40 = .ok (.iconst (-1), 1) := by decide +kernel
theorem dX12_count_41 : decode cX12_count 41 = .ok (.ireturn, 1) := by decide +kernel
theorem dJ9_max_7cf53_0 : decode cJ9_max_7cf53 0 = .ok (.iload_n 0, 1) := by decide +kernel
theorem dJ9_max_7cf53_1 : decode cJ9_max_7cf53 1 = .ok (.iload_n 1, 1) := by decide +kernel
theorem dJ9_max_7cf53_2 : decode cJ9_max_7cf53 2 = .ok (.if_icmp .lt 7, 3) := by decide +kernel
theorem dJ9_max_7cf53_5 : decode cJ9_max_7cf53 5 = .ok (.iload_n 0, 1) := by decide +kernel
theorem dJ9_max_7cf53_6 : decode cJ9_max_7cf53 6 = .ok (.goto 4, 3) := by decide +kernel
theorem dJ9_max_7cf53_9 : decode cJ9_max_7cf53 9 = .ok (.iload_n 1, 1) := by decide +kernel
theorem dJ9_max_7cf53_10 : decode cJ9_max_7cf53 10 = .ok (.ireturn, 1) := by decide +kernel
theorem dJ9_min_7cf53_0 : decode cJ9_min_7cf53 0 = .ok (.iload_n 0, 1) := by decide +kernel
theorem dJ9_min_7cf53_1 : decode cJ9_min_7cf53 1 = .ok (.iload_n 1, 1) := by decide +kernel
theorem dJ9_min_7cf53_2 : decode cJ9_min_7cf53 2 = .ok (.if_icmp .gt 7, 3) := by decide +kernel
theorem dJ9_min_7cf53_5 : decode cJ9_min_7cf53 5 = .ok (.iload_n 0, 1) := by decide +kernel
theorem dJ9_min_7cf53_6 : decode cJ9_min_7cf53 6 = .ok (.goto 4, 3) := by decide +kernel
theorem dJ9_min_7cf53_9 : decode cJ9_min_7cf53 9 = .ok (.iload_n 1, 1) := by decide +kernel
theorem dJ9_min_7cf53_10 : decode cJ9_min_7cf53 10 = .ok (.ireturn, 1) := by decide +kernel
theorem dJ7_fill_d0a16_0 : decode cJ7_fill_d0a16 0 = .ok (.iconst 0, 1) := by decide +kernel
theorem dJ7_fill_d0a16_1 : decode cJ7_fill_d0a16 1 = .ok (.istore_n 3, 1) := by decide +kernel
theorem dJ7_fill_d0a16_2 : decode cJ7_fill_d0a16 2 = .ok (.aload_n 0, 1) := by decide +kernel
theorem dJ7_fill_d0a16_3 : decode cJ7_fill_d0a16 3 = .ok (.arraylength, 1) := by decide +kernel
theorem dJ7_fill_d0a16_4 : decode cJ7_fill_d0a16 4 = .ok (.istore 4, 2) := by decide +kernel
theorem dJ7_fill_d0a16_6 : decode cJ7_fill_d0a16 6 = .ok (.iload_n 3, 1) := by decide +kernel
theorem dJ7_fill_d0a16_7 : decode cJ7_fill_d0a16 7 = .ok (.iload 4, 2) := by decide +kernel
theorem dJ7_fill_d0a16_9 : decode cJ7_fill_d0a16 9 = .ok (.if_icmp .ge 13, 3) := by decide +kernel
theorem dJ7_fill_d0a16_12 : decode cJ7_fill_d0a16 12 = .ok (.aload_n 0, 1) := by decide +kernel
theorem dJ7_fill_d0a16_13 : decode cJ7_fill_d0a16 13 = .ok (.iload_n 3, 1) := by decide +kernel
theorem dJ7_fill_d0a16_14 : decode cJ7_fill_d0a16 14 = .ok (.lload_n 1, 1) := by decide +kernel
theorem dJ7_fill_d0a16_15 : decode cJ7_fill_d0a16 15 = .ok (.lastore, 1) := by decide +kernel
theorem dJ7_fill_d0a16_16 : decode cJ7_fill_d0a16 16 = .ok (.iinc 3 1, 3) := by decide +kernel
theorem dJ7_fill_d0a16_19 : decode cJ7_fill_d0a16 19 = .ok (.goto (-13), 3) := by decide +kernel
theorem dJ7_fill_d0a16_22 : decode cJ7_fill_d0a16 22 = .ok (.return_, 1) := by decide +kernel
theorem dJ7_fill_53178_0 : decode cJ7_fill_53178 0 = .ok (.iconst 0, 1) := by decide +kernel
theorem dJ7_fill_53178_1 : decode cJ7_fill_53178 1 = .ok (.istore_n 2, 1) := by decide +kernel
theorem dJ7_fill_53178_2 : decode cJ7_fill_53178 2 = .ok (.aload_n 0, 1) := by decide +kernel
theorem dJ7_fill_53178_3 : decode cJ7_fill_53178 3 = .ok (.arraylength, 1) := by decide +kernel
theorem dJ7_fill_53178_4 : decode cJ7_fill_53178 4 = .ok (.istore_n 3, 1) := by decide +kernel
theorem dJ7_fill_53178_5 : decode cJ7_fill_53178 5 = .ok (.iload_n 2, 1) := by decide +kernel
theorem dJ7_fill_53178_6 : decode cJ7_fill_53178 6 = .ok (.iload_n 3, 1) := by decide +kernel
theorem dJ7_fill_53178_7 : decode cJ7_fill_53178 7 = .ok (.if_icmp .ge 13, 3) := by decide +kernel
theorem dJ7_fill_53178_10 : decode cJ7_fill_53178 10 = .ok (.aload_n 0, 1) := by decide +kernel
theorem dJ7_fill_53178_11 : decode cJ7_fill_53178 11 = .ok (.iload_n 2, 1) := by decide +kernel
theorem dJ7_fill_53178_12 : decode cJ7_fill_53178 12 = .ok (.iload_n 1, 1) := by decide +kernel
theorem dJ7_fill_53178_13 : decode cJ7_fill_53178 13 = .ok (.iastore, 1) := by decide +kernel
theorem dJ7_fill_53178_14 : decode cJ7_fill_53178 14 = .ok (.iinc 2 1, 3) := by decide +kernel
theorem dJ7_fill_53178_17 : decode cJ7_fill_53178 17 = .ok (.goto (-12), 3) := by decide +kernel
theorem dJ7_fill_53178_20 : decode cJ7_fill_53178 20 = .ok (.return_, 1) := by decide +kernel
theorem dL_house_0 : decode cL_house 0 = .ok (.aload_n 2, 1) := by decide +kernel
theorem dL_house_1 : decode cL_house 1 = .ok (.iconst 0, 1) := by decide +kernel
theorem dL_house_2 : decode cL_house 2 = .ok (.aload_n 0, 1) := by decide +kernel
theorem dL_house_3 : decode cL_house 3 = .ok (.iload_n 1, 1) := by decide +kernel
theorem dL_house_4 : decode cL_house 4 = .ok (.invokevirtual 7, 3) := by decide +kernel
theorem dL_house_7 : decode cL_house 7 = .ok (.i2l, 1) := by decide +kernel
theorem dL_house_8 : decode cL_house 8 = .ok (.lastore, 1) := by decide +kernel
theorem dL_house_9 : decode cL_house 9 = .ok (.goto 6, 3) := by decide +kernel
theorem dL_house_12 : decode cL_house 12 = .ok (.astore_n 3, 1) := by decide +kernel
theorem dL_house_13 : decode cL_house 13 = .ok (.iconst 1, 1) := by decide +kernel
theorem dL_house_14 : decode cL_house 14 = .ok (.ireturn, 1) := by decide +kernel
theorem dL_house_15 : decode cL_house 15 = .ok (.iconst 0, 1) := by decide +kernel
theorem dL_house_16 : decode cL_house 16 = .ok (.ireturn, 1) := by decide +kernel
theorem dL_law_0 : decode cL_law 0 = .ok (.aload_n 2, 1) := by decide +kernel
theorem dL_law_1 : decode cL_law 1 = .ok (.iconst 0, 1) := by decide +kernel
theorem dL_law_2 : decode cL_law 2 = .ok (.aload_n 0, 1) := by decide +kernel
theorem dL_law_3 : decode cL_law 3 = .ok (.iload_n 1, 1) := by decide +kernel
theorem dL_law_4 : decode cL_law 4 = .ok (.invokevirtual 15, 3) := by decide +kernel
theorem dL_law_7 : decode cL_law 7 = .ok (.i2l, 1) := by decide +kernel
theorem dL_law_8 : decode cL_law 8 = .ok (.lastore, 1) := by decide +kernel
theorem dL_law_9 : decode cL_law 9 = .ok (.goto 6, 3) := by decide +kernel
theorem dL_law_12 : decode cL_law 12 = .ok (.astore_n 3, 1) := by decide +kernel
theorem dL_law_13 : decode cL_law 13 = .ok (.iconst 1, 1) := by decide +kernel
theorem dL_law_14 : decode cL_law 14 = .ok (.ireturn, 1) := by decide +kernel
theorem dL_law_15 : decode cL_law 15 = .ok (.iconst 0, 1) := by decide +kernel
theorem dL_law_16 : decode cL_law 16 = .ok (.ireturn, 1) := by decide +kernel
theorem dL_work_0 : decode cL_work 0 = .ok (.aload_n 2, 1) := by decide +kernel
theorem dL_work_1 : decode cL_work 1 = .ok (.iconst 0, 1) := by decide +kernel
theorem dL_work_2 : decode cL_work 2 = .ok (.aload_n 0, 1) := by decide +kernel
theorem dL_work_3 : decode cL_work 3 = .ok (.iload_n 1, 1) := by decide +kernel
theorem dL_work_4 : decode cL_work 4 = .ok (.invokevirtual 18, 3) := by decide +kernel
theorem dL_work_7 : decode cL_work 7 = .ok (.i2l, 1) := by decide +kernel
theorem dL_work_8 : decode cL_work 8 = .ok (.lastore, 1) := by decide +kernel
theorem dL_work_9 : decode cL_work 9 = .ok (.goto 6, 3) := by decide +kernel
theorem dL_work_12 : decode cL_work 12 = .ok (.astore_n 3, 1) := by decide +kernel
theorem dL_work_13 : decode cL_work 13 = .ok (.iconst 1, 1) := by decide +kernel
theorem dL_work_14 : decode cL_work 14 = .ok (.ireturn, 1) := by decide +kernel
theorem dL_work_15 : decode cL_work 15 = .ok (.iconst 0, 1) := by decide +kernel
theorem dL_work_16 : decode cL_work 16 = .ok (.ireturn, 1) := by decide +kernel
theorem dL_book_0 : decode cL_book 0 = .ok (.aload_n 2, 1) := by decide +kernel
theorem dL_book_1 : decode cL_book 1 = .ok (.iconst 0, 1) := by decide +kernel
theorem dL_book_2 : decode cL_book 2 = .ok (.aload_n 0, 1) := by decide +kernel
theorem dL_book_3 : decode cL_book 3 = .ok (.iload_n 1, 1) := by decide +kernel
theorem dL_book_4 : decode cL_book 4 = .ok (.invokevirtual 21, 3) := by decide +kernel
theorem dL_book_7 : decode cL_book 7 = .ok (.i2l, 1) := by decide +kernel
theorem dL_book_8 : decode cL_book 8 = .ok (.lastore, 1) := by decide +kernel
theorem dL_book_9 : decode cL_book 9 = .ok (.goto 6, 3) := by decide +kernel
theorem dL_book_12 : decode cL_book 12 = .ok (.astore_n 3, 1) := by decide +kernel
theorem dL_book_13 : decode cL_book 13 = .ok (.iconst 1, 1) := by decide +kernel
theorem dL_book_14 : decode cL_book 14 = .ok (.ireturn, 1) := by decide +kernel
theorem dL_book_15 : decode cL_book 15 = .ok (.iconst 0, 1) := by decide +kernel
theorem dL_book_16 : decode cL_book 16 = .ok (.ireturn, 1) := by decide +kernel
theorem dL_told_0 : decode cL_told 0 = .ok (.aload_n 2, 1) := by decide +kernel
theorem dL_told_1 : decode cL_told 1 = .ok (.iconst 0, 1) := by decide +kernel
theorem dL_told_2 : decode cL_told 2 = .ok (.aload_n 0, 1) := by decide +kernel
theorem dL_told_3 : decode cL_told 3 = .ok (.iload_n 1, 1) := by decide +kernel
theorem dL_told_4 : decode cL_told 4 = .ok (.invokevirtual 24, 3) := by decide +kernel
theorem dL_told_7 : decode cL_told 7 = .ok (.i2l, 1) := by decide +kernel
theorem dL_told_8 : decode cL_told 8 = .ok (.lastore, 1) := by decide +kernel
theorem dL_told_9 : decode cL_told 9 = .ok (.goto 6, 3) := by decide +kernel
theorem dL_told_12 : decode cL_told 12 = .ok (.astore_n 3, 1) := by decide +kernel
theorem dL_told_13 : decode cL_told 13 = .ok (.iconst 1, 1) := by decide +kernel
theorem dL_told_14 : decode cL_told 14 = .ok (.ireturn, 1) := by decide +kernel
theorem dL_told_15 : decode cL_told 15 = .ok (.iconst 0, 1) := by decide +kernel
theorem dL_told_16 : decode cL_told 16 = .ok (.ireturn, 1) := by decide +kernel
theorem dL_piece_0 : decode cL_piece 0 = .ok (.aload_n 3, 1) := by decide +kernel
theorem dL_piece_1 : decode cL_piece 1 = .ok (.iconst 0, 1) := by decide +kernel
theorem dL_piece_2 : decode cL_piece 2 = .ok (.aload_n 0, 1) := by decide +kernel
theorem dL_piece_3 : decode cL_piece 3 = .ok (.iload_n 1, 1) := by decide +kernel
theorem dL_piece_4 : decode cL_piece 4 = .ok (.iload_n 2, 1) := by decide +kernel
theorem dL_piece_5 : decode cL_piece 5 = .ok (.invokevirtual 27, 3) := by decide +kernel
theorem dL_piece_8 : decode cL_piece 8 = .ok (.i2l, 1) := by decide +kernel
theorem dL_piece_9 : decode cL_piece 9 = .ok (.lastore, 1) := by decide +kernel
theorem dL_piece_10 : decode cL_piece 10 = .ok (.goto 11, 3) := by decide +kernel
theorem dL_piece_13 : decode cL_piece 13 = .ok (.astore 4, 2) := by decide +kernel
theorem dL_piece_15 : decode cL_piece 15 = .ok (.iconst 1, 1) := by decide +kernel
theorem dL_piece_16 : decode cL_piece 16 = .ok (.ireturn, 1) := by decide +kernel
theorem dL_piece_17 : decode cL_piece 17 = .ok (.astore 4, 2) := by decide +kernel
theorem dL_piece_19 : decode cL_piece 19 = .ok (.iconst 2, 1) := by decide +kernel
theorem dL_piece_20 : decode cL_piece 20 = .ok (.ireturn, 1) := by decide +kernel
theorem dL_piece_21 : decode cL_piece 21 = .ok (.iconst 0, 1) := by decide +kernel
theorem dL_piece_22 : decode cL_piece 22 = .ok (.ireturn, 1) := by decide +kernel
theorem dL_collar_0 : decode cL_collar 0 = .ok (.aload_n 3, 1) := by decide +kernel
theorem dL_collar_1 : decode cL_collar 1 = .ok (.iconst 0, 1) := by decide +kernel
theorem dL_collar_2 : decode cL_collar 2 = .ok (.aload_n 0, 1) := by decide +kernel
theorem dL_collar_3 : decode cL_collar 3 = .ok (.iload_n 1, 1) := by decide +kernel
theorem dL_collar_4 : decode cL_collar 4 = .ok (.iload_n 2, 1) := by decide +kernel
theorem dL_collar_5 : decode cL_collar 5 = .ok (.invokevirtual 33, 3) := by decide +kernel
theorem dL_collar_8 : decode cL_collar 8 = .ok (.i2l, 1) := by decide +kernel
theorem dL_collar_9 : decode cL_collar 9 = .ok (.lastore, 1) := by decide +kernel
theorem dL_collar_10 : decode cL_collar 10 = .ok (.goto 11, 3) := by decide +kernel
theorem dL_collar_13 : decode cL_collar 13 = .ok (.astore 4, 2) := by decide +kernel
theorem dL_collar_15 : decode cL_collar 15 = .ok (.iconst 1, 1) := by decide +kernel
theorem dL_collar_16 : decode cL_collar 16 = .ok (.ireturn, 1) := by decide +kernel
theorem dL_collar_17 : decode cL_collar 17 = .ok (.astore 4, 2) := by decide +kernel
theorem dL_collar_19 : decode cL_collar 19 = .ok (.iconst 2, 1) := by decide +kernel
theorem dL_collar_20 : decode cL_collar 20 = .ok (.ireturn, 1) := by decide +kernel
theorem dL_collar_21 : decode cL_collar 21 = .ok (.iconst 0, 1) := by decide +kernel
theorem dL_collar_22 : decode cL_collar 22 = .ok (.ireturn, 1) := by decide +kernel
theorem dL_fire_0 : decode cL_fire 0 = .ok (.aload_n 3, 1) := by decide +kernel
theorem dL_fire_1 : decode cL_fire 1 = .ok (.iconst 0, 1) := by decide +kernel
theorem dL_fire_2 : decode cL_fire 2 = .ok (.aload_n 0, 1) := by decide +kernel
theorem dL_fire_3 : decode cL_fire 3 = .ok (.iload_n 1, 1) := by decide +kernel
theorem dL_fire_4 : decode cL_fire 4 = .ok (.iload_n 2, 1) := by decide +kernel
theorem dL_fire_5 : decode cL_fire 5 = .ok (.invokevirtual 36, 3) := by decide +kernel
theorem dL_fire_8 : decode cL_fire 8 = .ok (.i2l, 1) := by decide +kernel
theorem dL_fire_9 : decode cL_fire 9 = .ok (.lastore, 1) := by decide +kernel
theorem dL_fire_10 : decode cL_fire 10 = .ok (.goto 11, 3) := by decide +kernel
theorem dL_fire_13 : decode cL_fire 13 = .ok (.astore 4, 2) := by decide +kernel
theorem dL_fire_15 : decode cL_fire 15 = .ok (.iconst 1, 1) := by decide +kernel
theorem dL_fire_16 : decode cL_fire 16 = .ok (.ireturn, 1) := by decide +kernel
theorem dL_fire_17 : decode cL_fire 17 = .ok (.astore 4, 2) := by decide +kernel
theorem dL_fire_19 : decode cL_fire 19 = .ok (.iconst 2, 1) := by decide +kernel
theorem dL_fire_20 : decode cL_fire 20 = .ok (.ireturn, 1) := by decide +kernel
theorem dL_fire_21 : decode cL_fire 21 = .ok (.iconst 0, 1) := by decide +kernel
theorem dL_fire_22 : decode cL_fire 22 = .ok (.ireturn, 1) := by decide +kernel
theorem dL_row_0 : decode cL_row 0 = .ok (.aload_n 2, 1) := by decide +kernel
theorem dL_row_1 : decode cL_row 1 = .ok (.iconst 0, 1) := by decide +kernel
theorem dL_row_2 : decode cL_row 2 = .ok (.aload_n 0, 1) := by decide +kernel
theorem dL_row_3 : decode cL_row 3 = .ok (.iload_n 1, 1) := by decide +kernel
theorem dL_row_4 : decode cL_row 4 = .ok (.invokevirtual 39, 3) := by decide +kernel
theorem dL_row_7 : decode cL_row 7 = .ok (.i2l, 1) := by decide +kernel
theorem dL_row_8 : decode cL_row 8 = .ok (.lastore, 1) := by decide +kernel
theorem dL_row_9 : decode cL_row 9 = .ok (.goto 6, 3) := by decide +kernel
theorem dL_row_12 : decode cL_row 12 = .ok (.astore_n 3, 1) := by decide +kernel
theorem dL_row_13 : decode cL_row 13 = .ok (.iconst 1, 1) := by decide +kernel
theorem dL_row_14 : decode cL_row 14 = .ok (.ireturn, 1) := by decide +kernel
theorem dL_row_15 : decode cL_row 15 = .ok (.iconst 0, 1) := by decide +kernel
theorem dL_row_16 : decode cL_row 16 = .ok (.ireturn, 1) := by decide +kernel
theorem dL_behind_0 : decode cL_behind 0 = .ok (.aload_n 2, 1) := by decide +kernel
theorem dL_behind_1 : decode cL_behind 1 = .ok (.iconst 0, 1) := by decide +kernel
theorem dL_behind_2 : decode cL_behind 2 = .ok (.aload_n 0, 1) := by decide +kernel
theorem dL_behind_3 : decode cL_behind 3 = .ok (.iload_n 1, 1) := by decide +kernel
theorem dL_behind_4 : decode cL_behind 4 = .ok (.invokevirtual 42, 3) := by decide +kernel
theorem dL_behind_7 : decode cL_behind 7 = .ok (.i2l, 1) := by decide +kernel
theorem dL_behind_8 : decode cL_behind 8 = .ok (.lastore, 1) := by decide +kernel
theorem dL_behind_9 : decode cL_behind 9 = .ok (.goto 6, 3) := by decide +kernel
theorem dL_behind_12 : decode cL_behind 12 = .ok (.astore_n 3, 1) := by decide +kernel
theorem dL_behind_13 : decode cL_behind 13 = .ok (.iconst 1, 1) := by decide +kernel
theorem dL_behind_14 : decode cL_behind 14 = .ok (.ireturn, 1) := by decide +kernel
theorem dL_behind_15 : decode cL_behind 15 = .ok (.iconst 0, 1) := by decide +kernel
theorem dL_behind_16 : decode cL_behind 16 = .ok (.ireturn, 1) := by decide +kernel
theorem dL_would_0 : decode cL_would 0 = .ok (.aload 10, 2) := by decide +kernel
theorem dL_would_2 : decode cL_would 2 = .ok (.iconst 0, 1) := by decide +kernel
theorem dL_would_3 : decode cL_would 3 = .ok (.aload_n 0, 1) := by decide +kernel
theorem dL_would_4 : decode cL_would 4 = .ok (.iload_n 1, 1) := by decide +kernel
theorem dL_would_5 : decode cL_would 5 = .ok (.iload_n 2, 1) := by decide +kernel
theorem dL_would_6 : decode cL_would 6 = .ok (.iload_n 3, 1) := by decide +kernel
theorem dL_would_7 : decode cL_would 7 = .ok (.iload 4, 2) := by decide +kernel
theorem dL_would_9 : decode cL_would 9 = .ok (.iload 5, 2) := by decide +kernel
theorem dL_would_11 : decode cL_would 11 = .ok (.iload 6, 2) := by decide +kernel
theorem dL_would_13 : decode cL_would 13 = .ok (.iload 7, 2) := by decide +kernel
theorem dL_would_15 : decode cL_would 15 = .ok (.iload 8, 2) := by decide +kernel
theorem dL_would_17 : decode cL_would 17 = .ok (.iload 9, 2) := by decide +kernel
theorem dL_would_19 : decode cL_would 19 = .ok (.invokevirtual 45, 3) := by decide +kernel
theorem dL_would_22 : decode cL_would 22 = .ok (.i2l, 1) := by decide +kernel
theorem dL_would_23 : decode cL_would 23 = .ok (.lastore, 1) := by decide +kernel
theorem dL_would_24 : decode cL_would 24 = .ok (.goto 7, 3) := by decide +kernel
theorem dL_would_27 : decode cL_would 27 = .ok (.astore 11, 2) := by decide +kernel
theorem dL_would_29 : decode cL_would 29 = .ok (.iconst 1, 1) := by decide +kernel
theorem dL_would_30 : decode cL_would 30 = .ok (.ireturn, 1) := by decide +kernel
theorem dL_would_31 : decode cL_would 31 = .ok (.iconst 0, 1) := by decide +kernel
theorem dL_would_32 : decode cL_would 32 = .ok (.ireturn, 1) := by decide +kernel
theorem dL_fits_0 : decode cL_fits 0 = .ok (.aload_n 3, 1) := by decide +kernel
theorem dL_fits_1 : decode cL_fits 1 = .ok (.iconst 0, 1) := by decide +kernel
theorem dL_fits_2 : decode cL_fits 2 = .ok (.aload_n 0, 1) := by decide +kernel
theorem dL_fits_3 : decode cL_fits 3 = .ok (.iload_n 1, 1) := by decide +kernel
theorem dL_fits_4 : decode cL_fits 4 = .ok (.iload_n 2, 1) := by decide +kernel
theorem dL_fits_5 : decode cL_fits 5 = .ok (.invokevirtual 49, 3) := by decide +kernel
theorem dL_fits_8 : decode cL_fits 8 = .ok (.ifCond .eq 7, 3) := by decide +kernel
theorem dL_fits_11 : decode cL_fits 11 = .ok (.lconst 1, 1) := by decide +kernel
theorem dL_fits_12 : decode cL_fits 12 = .ok (.goto 4, 3) := by decide +kernel
theorem dL_fits_15 : decode cL_fits 15 = .ok (.lconst 0, 1) := by decide +kernel
theorem dL_fits_16 : decode cL_fits 16 = .ok (.lastore, 1) := by decide +kernel
theorem dL_fits_17 : decode cL_fits 17 = .ok (.goto 7, 3) := by decide +kernel
theorem dL_fits_20 : decode cL_fits 20 = .ok (.astore 4, 2) := by decide +kernel
theorem dL_fits_22 : decode cL_fits 22 = .ok (.iconst 1, 1) := by decide +kernel
theorem dL_fits_23 : decode cL_fits 23 = .ok (.ireturn, 1) := by decide +kernel
theorem dL_fits_24 : decode cL_fits 24 = .ok (.iconst 0, 1) := by decide +kernel
theorem dL_fits_25 : decode cL_fits 25 = .ok (.ireturn, 1) := by decide +kernel
theorem dL_can_0 : decode cL_can 0 = .ok (.aload_n 2, 1) := by decide +kernel
theorem dL_can_1 : decode cL_can 1 = .ok (.iconst 0, 1) := by decide +kernel
theorem dL_can_2 : decode cL_can 2 = .ok (.aload_n 0, 1) := by decide +kernel
theorem dL_can_3 : decode cL_can 3 = .ok (.iload_n 1, 1) := by decide +kernel
theorem dL_can_4 : decode cL_can 4 = .ok (.invokevirtual 53, 3) := by decide +kernel
theorem dL_can_7 : decode cL_can 7 = .ok (.ifCond .eq 7, 3) := by decide +kernel
theorem dL_can_10 : decode cL_can 10 = .ok (.lconst 1, 1) := by decide +kernel
theorem dL_can_11 : decode cL_can 11 = .ok (.goto 4, 3) := by decide +kernel
theorem dL_can_14 : decode cL_can 14 = .ok (.lconst 0, 1) := by decide +kernel
theorem dL_can_15 : decode cL_can 15 = .ok (.lastore, 1) := by decide +kernel
theorem dL_can_16 : decode cL_can 16 = .ok (.goto 6, 3) := by decide +kernel
theorem dL_can_19 : decode cL_can 19 = .ok (.astore_n 3, 1) := by decide +kernel
theorem dL_can_20 : decode cL_can 20 = .ok (.iconst 1, 1) := by decide +kernel
theorem dL_can_21 : decode cL_can 21 = .ok (.ireturn, 1) := by decide +kernel
theorem dL_can_22 : decode cL_can 22 = .ok (.iconst 0, 1) := by decide +kernel
theorem dL_can_23 : decode cL_can 23 = .ok (.ireturn, 1) := by decide +kernel
theorem dL_ahead_0 : decode cL_ahead 0 = .ok (.aload_n 2, 1) := by decide +kernel
theorem dL_ahead_1 : decode cL_ahead 1 = .ok (.iconst 0, 1) := by decide +kernel
theorem dL_ahead_2 : decode cL_ahead 2 = .ok (.aload_n 0, 1) := by decide +kernel
theorem dL_ahead_3 : decode cL_ahead 3 = .ok (.iload_n 1, 1) := by decide +kernel
theorem dL_ahead_4 : decode cL_ahead 4 = .ok (.invokevirtual 57, 3) := by decide +kernel
theorem dL_ahead_7 : decode cL_ahead 7 = .ok (.i2l, 1) := by decide +kernel
theorem dL_ahead_8 : decode cL_ahead 8 = .ok (.lastore, 1) := by decide +kernel
theorem dL_ahead_9 : decode cL_ahead 9 = .ok (.goto 6, 3) := by decide +kernel
theorem dL_ahead_12 : decode cL_ahead 12 = .ok (.astore_n 3, 1) := by decide +kernel
theorem dL_ahead_13 : decode cL_ahead 13 = .ok (.iconst 1, 1) := by decide +kernel
theorem dL_ahead_14 : decode cL_ahead 14 = .ok (.ireturn, 1) := by decide +kernel
theorem dL_ahead_15 : decode cL_ahead 15 = .ok (.iconst 0, 1) := by decide +kernel
theorem dL_ahead_16 : decode cL_ahead 16 = .ok (.ireturn, 1) := by decide +kernel
theorem dL_chain_0 : decode cL_chain 0 = .ok (.aload_n 2, 1) := by decide +kernel
theorem dL_chain_1 : decode cL_chain 1 = .ok (.iconst 0, 1) := by decide +kernel
theorem dL_chain_2 : decode cL_chain 2 = .ok (.aload_n 0, 1) := by decide +kernel
theorem dL_chain_3 : decode cL_chain 3 = .ok (.iload_n 1, 1) := by decide +kernel
theorem dL_chain_4 : decode cL_chain 4 = .ok (.invokevirtual 60, 3) := by decide +kernel
theorem dL_chain_7 : decode cL_chain 7 = .ok (.i2l, 1) := by decide +kernel
theorem dL_chain_8 : decode cL_chain 8 = .ok (.lastore, 1) := by decide +kernel
theorem dL_chain_9 : decode cL_chain 9 = .ok (.goto 6, 3) := by decide +kernel
theorem dL_chain_12 : decode cL_chain 12 = .ok (.astore_n 3, 1) := by decide +kernel
theorem dL_chain_13 : decode cL_chain 13 = .ok (.iconst 1, 1) := by decide +kernel
theorem dL_chain_14 : decode cL_chain 14 = .ok (.ireturn, 1) := by decide +kernel
theorem dL_chain_15 : decode cL_chain 15 = .ok (.iconst 0, 1) := by decide +kernel
theorem dL_chain_16 : decode cL_chain 16 = .ok (.ireturn, 1) := by decide +kernel
theorem dL_chained_0 : decode cL_chained 0 = .ok (.aload_n 2, 1) := by decide +kernel
theorem dL_chained_1 : decode cL_chained 1 = .ok (.iconst 0, 1) := by decide +kernel
theorem dL_chained_2 : decode cL_chained 2 = .ok (.aload_n 0, 1) := by decide +kernel
theorem dL_chained_3 : decode cL_chained 3 = .ok (.iload_n 1, 1) := by decide +kernel
theorem dL_chained_4 : decode cL_chained 4 = .ok (.invokevirtual 63, 3) := by decide +kernel
theorem dL_chained_7 : decode cL_chained 7 = .ok (.i2l, 1) := by decide +kernel
theorem dL_chained_8 : decode cL_chained 8 = .ok (.lastore, 1) := by decide +kernel
theorem dL_chained_9 : decode cL_chained 9 = .ok (.goto 6, 3) := by decide +kernel
theorem dL_chained_12 : decode cL_chained 12 = .ok (.astore_n 3, 1) := by decide +kernel
theorem dL_chained_13 : decode cL_chained 13 = .ok (.iconst 1, 1) := by decide +kernel
theorem dL_chained_14 : decode cL_chained 14 = .ok (.ireturn, 1) := by decide +kernel
theorem dL_chained_15 : decode cL_chained 15 = .ok (.iconst 0, 1) := by decide +kernel
theorem dL_chained_16 : decode cL_chained 16 = .ok (.ireturn, 1) := by decide +kernel
theorem dL_brief_0 : decode cL_brief 0 = .ok (.aload_n 2, 1) := by decide +kernel
theorem dL_brief_1 : decode cL_brief 1 = .ok (.iconst 0, 1) := by decide +kernel
theorem dL_brief_2 : decode cL_brief 2 = .ok (.aload_n 0, 1) := by decide +kernel
theorem dL_brief_3 : decode cL_brief 3 = .ok (.iload_n 1, 1) := by decide +kernel
theorem dL_brief_4 : decode cL_brief 4 = .ok (.invokevirtual 66, 3) := by decide +kernel
theorem dL_brief_7 : decode cL_brief 7 = .ok (.i2l, 1) := by decide +kernel
theorem dL_brief_8 : decode cL_brief 8 = .ok (.lastore, 1) := by decide +kernel
theorem dL_brief_9 : decode cL_brief 9 = .ok (.goto 6, 3) := by decide +kernel
theorem dL_brief_12 : decode cL_brief 12 = .ok (.astore_n 3, 1) := by decide +kernel
theorem dL_brief_13 : decode cL_brief 13 = .ok (.iconst 1, 1) := by decide +kernel
theorem dL_brief_14 : decode cL_brief 14 = .ok (.ireturn, 1) := by decide +kernel
theorem dL_brief_15 : decode cL_brief 15 = .ok (.iconst 0, 1) := by decide +kernel
theorem dL_brief_16 : decode cL_brief 16 = .ok (.ireturn, 1) := by decide +kernel
theorem dL_briefly_0 : decode cL_briefly 0 = .ok (.aload_n 3, 1) := by decide +kernel
theorem dL_briefly_1 : decode cL_briefly 1 = .ok (.iconst 0, 1) := by decide +kernel
theorem dL_briefly_2 : decode cL_briefly 2 = .ok (.aload_n 0, 1) := by decide +kernel
theorem dL_briefly_3 : decode cL_briefly 3 = .ok (.iload_n 1, 1) := by decide +kernel
theorem dL_briefly_4 : decode cL_briefly 4 = .ok (.iload_n 2, 1) := by decide +kernel
theorem dL_briefly_5 : decode cL_briefly 5 = .ok (.invokevirtual 69, 3) := by decide +kernel
theorem dL_briefly_8 : decode cL_briefly 8 = .ok (.i2l, 1) := by decide +kernel
theorem dL_briefly_9 : decode cL_briefly 9 = .ok (.lastore, 1) := by decide +kernel
theorem dL_briefly_10 : decode cL_briefly 10 = .ok (.goto 11, 3) := by decide +kernel
theorem dL_briefly_13 : decode cL_briefly 13 = .ok (.astore 4, 2) := by decide +kernel
theorem dL_briefly_15 : decode cL_briefly 15 = .ok (.iconst 1, 1) := by decide +kernel
theorem dL_briefly_16 : decode cL_briefly 16 = .ok (.ireturn, 1) := by decide +kernel
theorem dL_briefly_17 : decode cL_briefly 17 = .ok (.astore 4, 2) := by decide +kernel
theorem dL_briefly_19 : decode cL_briefly 19 = .ok (.iconst 2, 1) := by decide +kernel
theorem dL_briefly_20 : decode cL_briefly 20 = .ok (.ireturn, 1) := by decide +kernel
theorem dL_briefly_21 : decode cL_briefly 21 = .ok (.iconst 0, 1) := by decide +kernel
theorem dL_briefly_22 : decode cL_briefly 22 = .ok (.ireturn, 1) := by decide +kernel
theorem dL_joiner_0 : decode cL_joiner 0 = .ok (.aload_n 2, 1) := by decide +kernel
theorem dL_joiner_1 : decode cL_joiner 1 = .ok (.iconst 0, 1) := by decide +kernel
theorem dL_joiner_2 : decode cL_joiner 2 = .ok (.aload_n 0, 1) := by decide +kernel
theorem dL_joiner_3 : decode cL_joiner 3 = .ok (.iload_n 1, 1) := by decide +kernel
theorem dL_joiner_4 : decode cL_joiner 4 = .ok (.invokevirtual 72, 3) := by decide +kernel
theorem dL_joiner_7 : decode cL_joiner 7 = .ok (.i2l, 1) := by decide +kernel
theorem dL_joiner_8 : decode cL_joiner 8 = .ok (.lastore, 1) := by decide +kernel
theorem dL_joiner_9 : decode cL_joiner 9 = .ok (.goto 6, 3) := by decide +kernel
theorem dL_joiner_12 : decode cL_joiner 12 = .ok (.astore_n 3, 1) := by decide +kernel
theorem dL_joiner_13 : decode cL_joiner 13 = .ok (.iconst 1, 1) := by decide +kernel
theorem dL_joiner_14 : decode cL_joiner 14 = .ok (.ireturn, 1) := by decide +kernel
theorem dL_joiner_15 : decode cL_joiner 15 = .ok (.iconst 0, 1) := by decide +kernel
theorem dL_joiner_16 : decode cL_joiner 16 = .ok (.ireturn, 1) := by decide +kernel
theorem dL_leaks_0 : decode cL_leaks 0 = .ok (.aload_n 2, 1) := by decide +kernel
theorem dL_leaks_1 : decode cL_leaks 1 = .ok (.iconst 0, 1) := by decide +kernel
theorem dL_leaks_2 : decode cL_leaks 2 = .ok (.aload_n 0, 1) := by decide +kernel
theorem dL_leaks_3 : decode cL_leaks 3 = .ok (.iload_n 1, 1) := by decide +kernel
theorem dL_leaks_4 : decode cL_leaks 4 = .ok (.invokevirtual 75, 3) := by decide +kernel
theorem dL_leaks_7 : decode cL_leaks 7 = .ok (.i2l, 1) := by decide +kernel
theorem dL_leaks_8 : decode cL_leaks 8 = .ok (.lastore, 1) := by decide +kernel
theorem dL_leaks_9 : decode cL_leaks 9 = .ok (.goto 6, 3) := by decide +kernel
theorem dL_leaks_12 : decode cL_leaks 12 = .ok (.astore_n 3, 1) := by decide +kernel
theorem dL_leaks_13 : decode cL_leaks 13 = .ok (.iconst 1, 1) := by decide +kernel
theorem dL_leaks_14 : decode cL_leaks 14 = .ok (.ireturn, 1) := by decide +kernel
theorem dL_leaks_15 : decode cL_leaks 15 = .ok (.iconst 0, 1) := by decide +kernel
theorem dL_leaks_16 : decode cL_leaks 16 = .ok (.ireturn, 1) := by decide +kernel
theorem dL_look_0 : decode cL_look 0 = .ok (.aload_n 2, 1) := by decide +kernel
theorem dL_look_1 : decode cL_look 1 = .ok (.iconst 0, 1) := by decide +kernel
theorem dL_look_2 : decode cL_look 2 = .ok (.aload_n 0, 1) := by decide +kernel
theorem dL_look_3 : decode cL_look 3 = .ok (.iload_n 1, 1) := by decide +kernel
theorem dL_look_4 : decode cL_look 4 = .ok (.invokevirtual 78, 3) := by decide +kernel
theorem dL_look_7 : decode cL_look 7 = .ok (.i2l, 1) := by decide +kernel
theorem dL_look_8 : decode cL_look 8 = .ok (.lastore, 1) := by decide +kernel
theorem dL_look_9 : decode cL_look 9 = .ok (.goto 6, 3) := by decide +kernel
theorem dL_look_12 : decode cL_look 12 = .ok (.astore_n 3, 1) := by decide +kernel
theorem dL_look_13 : decode cL_look 13 = .ok (.iconst 1, 1) := by decide +kernel
theorem dL_look_14 : decode cL_look 14 = .ok (.ireturn, 1) := by decide +kernel
theorem dL_look_15 : decode cL_look 15 = .ok (.iconst 0, 1) := by decide +kernel
theorem dL_look_16 : decode cL_look 16 = .ok (.ireturn, 1) := by decide +kernel
theorem dL_sure_0 : decode cL_sure 0 = .ok (.aload 4, 2) := by decide +kernel
theorem dL_sure_2 : decode cL_sure 2 = .ok (.iconst 0, 1) := by decide +kernel
theorem dL_sure_3 : decode cL_sure 3 = .ok (.aload_n 0, 1) := by decide +kernel
theorem dL_sure_4 : decode cL_sure 4 = .ok (.iload_n 1, 1) := by decide +kernel
theorem dL_sure_5 : decode cL_sure 5 = .ok (.iload_n 2, 1) := by decide +kernel
theorem dL_sure_6 : decode cL_sure 6 = .ok (.iload_n 3, 1) := by decide +kernel
theorem dL_sure_7 : decode cL_sure 7 = .ok (.invokevirtual 81, 3) := by decide +kernel
theorem dL_sure_10 : decode cL_sure 10 = .ok (.lastore, 1) := by decide +kernel
theorem dL_sure_11 : decode cL_sure 11 = .ok (.goto 11, 3) := by decide +kernel
theorem dL_sure_14 : decode cL_sure 14 = .ok (.astore 5, 2) := by decide +kernel
theorem dL_sure_16 : decode cL_sure 16 = .ok (.iconst 1, 1) := by decide +kernel
theorem dL_sure_17 : decode cL_sure 17 = .ok (.ireturn, 1) := by decide +kernel
theorem dL_sure_18 : decode cL_sure 18 = .ok (.astore 5, 2) := by decide +kernel
theorem dL_sure_20 : decode cL_sure 20 = .ok (.iconst 2, 1) := by decide +kernel
theorem dL_sure_21 : decode cL_sure 21 = .ok (.ireturn, 1) := by decide +kernel
theorem dL_sure_22 : decode cL_sure 22 = .ok (.iconst 0, 1) := by decide +kernel
theorem dL_sure_23 : decode cL_sure 23 = .ok (.ireturn, 1) := by decide +kernel
theorem dL_street_0 : decode cL_street 0 = .ok (.aload 4, 2) := by decide +kernel
theorem dL_street_2 : decode cL_street 2 = .ok (.iconst 0, 1) := by decide +kernel
theorem dL_street_3 : decode cL_street 3 = .ok (.aload_n 0, 1) := by decide +kernel
theorem dL_street_4 : decode cL_street 4 = .ok (.iload_n 1, 1) := by decide +kernel
theorem dL_street_5 : decode cL_street 5 = .ok (.iload_n 2, 1) := by decide +kernel
theorem dL_street_6 : decode cL_street 6 = .ok (.iload_n 3, 1) := by decide +kernel
theorem dL_street_7 : decode cL_street 7 = .ok (.invokevirtual 85, 3) := by decide +kernel
theorem dL_street_10 : decode cL_street 10 = .ok (.i2l, 1) := by decide +kernel
theorem dL_street_11 : decode cL_street 11 = .ok (.lastore, 1) := by decide +kernel
theorem dL_street_12 : decode cL_street 12 = .ok (.goto 7, 3) := by decide +kernel
theorem dL_street_15 : decode cL_street 15 = .ok (.astore 5, 2) := by decide +kernel
theorem dL_street_17 : decode cL_street 17 = .ok (.iconst 1, 1) := by decide +kernel
theorem dL_street_18 : decode cL_street 18 = .ok (.ireturn, 1) := by decide +kernel
theorem dL_street_19 : decode cL_street 19 = .ok (.iconst 0, 1) := by decide +kernel
theorem dL_street_20 : decode cL_street 20 = .ok (.ireturn, 1) := by decide +kernel
theorem dL_share_0 : decode cL_share 0 = .ok (.aload 4, 2) := by decide +kernel
theorem dL_share_2 : decode cL_share 2 = .ok (.iconst 0, 1) := by decide +kernel
theorem dL_share_3 : decode cL_share 3 = .ok (.aload_n 0, 1) := by decide +kernel
theorem dL_share_4 : decode cL_share 4 = .ok (.iload_n 1, 1) := by decide +kernel
theorem dL_share_5 : decode cL_share 5 = .ok (.iload_n 2, 1) := by decide +kernel
theorem dL_share_6 : decode cL_share 6 = .ok (.iload_n 3, 1) := by decide +kernel
theorem dL_share_7 : decode cL_share 7 = .ok (.invokevirtual 89, 3) := by decide +kernel
theorem dL_share_10 : decode cL_share 10 = .ok (.i2l, 1) := by decide +kernel
theorem dL_share_11 : decode cL_share 11 = .ok (.lastore, 1) := by decide +kernel
theorem dL_share_12 : decode cL_share 12 = .ok (.goto 11, 3) := by decide +kernel
theorem dL_share_15 : decode cL_share 15 = .ok (.astore 5, 2) := by decide +kernel
theorem dL_share_17 : decode cL_share 17 = .ok (.iconst 1, 1) := by decide +kernel
theorem dL_share_18 : decode cL_share 18 = .ok (.ireturn, 1) := by decide +kernel
theorem dL_share_19 : decode cL_share 19 = .ok (.astore 5, 2) := by decide +kernel
theorem dL_share_21 : decode cL_share 21 = .ok (.iconst 2, 1) := by decide +kernel
theorem dL_share_22 : decode cL_share 22 = .ok (.ireturn, 1) := by decide +kernel
theorem dL_share_23 : decode cL_share 23 = .ok (.iconst 0, 1) := by decide +kernel
theorem dL_share_24 : decode cL_share 24 = .ok (.ireturn, 1) := by decide +kernel
theorem dL_next_0 : decode cL_next 0 = .ok (.aload_n 2, 1) := by decide +kernel
theorem dL_next_1 : decode cL_next 1 = .ok (.iconst 0, 1) := by decide +kernel
theorem dL_next_2 : decode cL_next 2 = .ok (.aload_n 0, 1) := by decide +kernel
theorem dL_next_3 : decode cL_next 3 = .ok (.iload_n 1, 1) := by decide +kernel
theorem dL_next_4 : decode cL_next 4 = .ok (.invokevirtual 92, 3) := by decide +kernel
theorem dL_next_7 : decode cL_next 7 = .ok (.i2l, 1) := by decide +kernel
theorem dL_next_8 : decode cL_next 8 = .ok (.lastore, 1) := by decide +kernel
theorem dL_next_9 : decode cL_next 9 = .ok (.goto 6, 3) := by decide +kernel
theorem dL_next_12 : decode cL_next 12 = .ok (.astore_n 3, 1) := by decide +kernel
theorem dL_next_13 : decode cL_next 13 = .ok (.iconst 1, 1) := by decide +kernel
theorem dL_next_14 : decode cL_next 14 = .ok (.ireturn, 1) := by decide +kernel
theorem dL_next_15 : decode cL_next 15 = .ok (.iconst 0, 1) := by decide +kernel
theorem dL_next_16 : decode cL_next 16 = .ok (.ireturn, 1) := by decide +kernel
theorem dL_worst_0 : decode cL_worst 0 = .ok (.aload_n 2, 1) := by decide +kernel
theorem dL_worst_1 : decode cL_worst 1 = .ok (.iconst 0, 1) := by decide +kernel
theorem dL_worst_2 : decode cL_worst 2 = .ok (.aload_n 0, 1) := by decide +kernel
theorem dL_worst_3 : decode cL_worst 3 = .ok (.iload_n 1, 1) := by decide +kernel
theorem dL_worst_4 : decode cL_worst 4 = .ok (.invokevirtual 95, 3) := by decide +kernel
theorem dL_worst_7 : decode cL_worst 7 = .ok (.i2l, 1) := by decide +kernel
theorem dL_worst_8 : decode cL_worst 8 = .ok (.lastore, 1) := by decide +kernel
theorem dL_worst_9 : decode cL_worst 9 = .ok (.goto 6, 3) := by decide +kernel
theorem dL_worst_12 : decode cL_worst 12 = .ok (.astore_n 3, 1) := by decide +kernel
theorem dL_worst_13 : decode cL_worst 13 = .ok (.iconst 1, 1) := by decide +kernel
theorem dL_worst_14 : decode cL_worst 14 = .ok (.ireturn, 1) := by decide +kernel
theorem dL_worst_15 : decode cL_worst 15 = .ok (.iconst 0, 1) := by decide +kernel
theorem dL_worst_16 : decode cL_worst 16 = .ok (.ireturn, 1) := by decide +kernel
theorem dL_needed_0 : decode cL_needed 0 = .ok (.aload_n 2, 1) := by decide +kernel
theorem dL_needed_1 : decode cL_needed 1 = .ok (.iconst 0, 1) := by decide +kernel
theorem dL_needed_2 : decode cL_needed 2 = .ok (.aload_n 0, 1) := by decide +kernel
theorem dL_needed_3 : decode cL_needed 3 = .ok (.iload_n 1, 1) := by decide +kernel
theorem dL_needed_4 : decode cL_needed 4 = .ok (.invokevirtual 98, 3) := by decide +kernel
theorem dL_needed_7 : decode cL_needed 7 = .ok (.i2l, 1) := by decide +kernel
theorem dL_needed_8 : decode cL_needed 8 = .ok (.lastore, 1) := by decide +kernel
theorem dL_needed_9 : decode cL_needed 9 = .ok (.goto 6, 3) := by decide +kernel
theorem dL_needed_12 : decode cL_needed 12 = .ok (.astore_n 3, 1) := by decide +kernel
theorem dL_needed_13 : decode cL_needed 13 = .ok (.iconst 1, 1) := by decide +kernel
theorem dL_needed_14 : decode cL_needed 14 = .ok (.ireturn, 1) := by decide +kernel
theorem dL_needed_15 : decode cL_needed 15 = .ok (.iconst 0, 1) := by decide +kernel
theorem dL_needed_16 : decode cL_needed 16 = .ok (.ireturn, 1) := by decide +kernel
theorem dL_kin_0 : decode cL_kin 0 = .ok (.aload_n 2, 1) := by decide +kernel
theorem dL_kin_1 : decode cL_kin 1 = .ok (.iconst 0, 1) := by decide +kernel
theorem dL_kin_2 : decode cL_kin 2 = .ok (.aload_n 0, 1) := by decide +kernel
theorem dL_kin_3 : decode cL_kin 3 = .ok (.iload_n 1, 1) := by decide +kernel
theorem dL_kin_4 : decode cL_kin 4 = .ok (.invokevirtual 101, 3) := by decide +kernel
theorem dL_kin_7 : decode cL_kin 7 = .ok (.i2l, 1) := by decide +kernel
theorem dL_kin_8 : decode cL_kin 8 = .ok (.lastore, 1) := by decide +kernel
theorem dL_kin_9 : decode cL_kin 9 = .ok (.goto 6, 3) := by decide +kernel
theorem dL_kin_12 : decode cL_kin 12 = .ok (.astore_n 3, 1) := by decide +kernel
theorem dL_kin_13 : decode cL_kin 13 = .ok (.iconst 1, 1) := by decide +kernel
theorem dL_kin_14 : decode cL_kin 14 = .ok (.ireturn, 1) := by decide +kernel
theorem dL_kin_15 : decode cL_kin 15 = .ok (.iconst 0, 1) := by decide +kernel
theorem dL_kin_16 : decode cL_kin 16 = .ok (.ireturn, 1) := by decide +kernel
theorem dL_year_0 : decode cL_year 0 = .ok (.aload 5, 2) := by decide +kernel
theorem dL_year_2 : decode cL_year 2 = .ok (.iconst 0, 1) := by decide +kernel
theorem dL_year_3 : decode cL_year 3 = .ok (.aload_n 0, 1) := by decide +kernel
theorem dL_year_4 : decode cL_year 4 = .ok (.iload_n 1, 1) := by decide +kernel
theorem dL_year_5 : decode cL_year 5 = .ok (.iload_n 2, 1) := by decide +kernel
theorem dL_year_6 : decode cL_year 6 = .ok (.iload_n 3, 1) := by decide +kernel
theorem dL_year_7 : decode cL_year 7 = .ok (.iload 4, 2) := by decide +kernel
theorem dL_year_9 : decode cL_year 9 = .ok (.invokevirtual 104, 3) := by decide +kernel
theorem dL_year_12 : decode cL_year 12 = .ok (.i2l, 1) := by decide +kernel
theorem dL_year_13 : decode cL_year 13 = .ok (.lastore, 1) := by decide +kernel
theorem dL_year_14 : decode cL_year 14 = .ok (.goto 7, 3) := by decide +kernel
theorem dL_year_17 : decode cL_year 17 = .ok (.astore 6, 2) := by decide +kernel
theorem dL_year_19 : decode cL_year 19 = .ok (.iconst 1, 1) := by decide +kernel
theorem dL_year_20 : decode cL_year 20 = .ok (.ireturn, 1) := by decide +kernel
theorem dL_year_21 : decode cL_year 21 = .ok (.iconst 0, 1) := by decide +kernel
theorem dL_year_22 : decode cL_year 22 = .ok (.ireturn, 1) := by decide +kernel
theorem dL_span_0 : decode cL_span 0 = .ok (.aload 7, 2) := by decide +kernel
theorem dL_span_2 : decode cL_span 2 = .ok (.iconst 0, 1) := by decide +kernel
theorem dL_span_3 : decode cL_span 3 = .ok (.aload_n 0, 1) := by decide +kernel
theorem dL_span_4 : decode cL_span 4 = .ok (.iload_n 1, 1) := by decide +kernel
theorem dL_span_5 : decode cL_span 5 = .ok (.iload_n 2, 1) := by decide +kernel
theorem dL_span_6 : decode cL_span 6 = .ok (.iload_n 3, 1) := by decide +kernel
theorem dL_span_7 : decode cL_span 7 = .ok (.iload 4, 2) := by decide +kernel
theorem dL_span_9 : decode cL_span 9 = .ok (.iload 5, 2) := by decide +kernel
theorem dL_span_11 : decode cL_span 11 = .ok (.iload 6, 2) := by decide +kernel
theorem dL_span_13 : decode cL_span 13 = .ok (.invokevirtual 108, 3) := by decide +kernel
theorem dL_span_16 : decode cL_span 16 = .ok (.i2l, 1) := by decide +kernel
theorem dL_span_17 : decode cL_span 17 = .ok (.lastore, 1) := by decide +kernel
theorem dL_span_18 : decode cL_span 18 = .ok (.goto 7, 3) := by decide +kernel
theorem dL_span_21 : decode cL_span 21 = .ok (.astore 8, 2) := by decide +kernel
theorem dL_span_23 : decode cL_span 23 = .ok (.iconst 1, 1) := by decide +kernel
theorem dL_span_24 : decode cL_span 24 = .ok (.ireturn, 1) := by decide +kernel
theorem dL_span_25 : decode cL_span 25 = .ok (.iconst 0, 1) := by decide +kernel
theorem dL_span_26 : decode cL_span 26 = .ok (.ireturn, 1) := by decide +kernel
theorem dL_law__0 : decode cL_law_ 0 = .ok (.new 8, 3) := by decide +kernel
theorem dL_law__3 : decode cL_law_ 3 = .ok (.dup, 1) := by decide +kernel
theorem dL_law__4 : decode cL_law_ 4 = .ok (.invokespecial 112, 3) := by decide +kernel
theorem dL_law__7 : decode cL_law_ 7 = .ok (.astore_n 1, 1) := by decide +kernel
theorem dL_law__8 : decode cL_law_ 8 = .ok (.new 113, 3) := by decide +kernel
theorem dL_law__11 : decode cL_law_ 11 = .ok (.dup, 1) := by decide +kernel
theorem dL_law__12 : decode cL_law_ 12 = .ok (.invokespecial 115, 3) := by decide +kernel
theorem dL_law__15 : decode cL_law_ 15 = .ok (.astore_n 2, 1) := by decide +kernel
theorem dL_law__16 : decode cL_law_ 16 = .ok (.iconst 1, 1) := by decide +kernel
theorem dL_law__17 : decode cL_law_ 17 = .ok (.newarray .long, 2) := by decide +kernel
theorem dL_law__19 : decode cL_law_ 19 = .ok (.astore_n 3, 1) := by decide +kernel
theorem dL_law__20 : decode cL_law_ 20 = .ok (.iconst 0, 1) := by decide +kernel
theorem dL_law__21 : decode cL_law_ 21 = .ok (.istore 4, 2) := by decide +kernel
theorem dL_law__23 : decode cL_law_ 23 = .ok (.iload 4, 2) := by decide +kernel
theorem dL_law__25 : decode cL_law_ 25 = .ok (.aload_n 0, 1) := by decide +kernel
theorem dL_law__26 : decode cL_law_ 26 = .ok (.arraylength, 1) := by decide +kernel
theorem dL_law__27 : decode cL_law_ 27 = .ok (.bipush 10, 2) := by decide +kernel
theorem dL_law__29 : decode cL_law_ 29 = .ok (.isub, 1) := by decide +kernel
theorem dL_law__30 : decode cL_law_ 30 = .ok (.if_icmp .gt 2399, 3) := by decide +kernel
theorem dL_law__33 : decode cL_law_ 33 = .ok (.aload_n 0, 1) := by decide +kernel
theorem dL_law__34 : decode cL_law_ 34 = .ok (.iload 4, 2) := by decide +kernel
theorem dL_law__36 : decode cL_law_ 36 = .ok (.iaload, 1) := by decide +kernel
theorem dL_law__37 : decode cL_law_ 37 = .ok (.bipush 63, 2) := by decide +kernel
theorem dL_law__39 : decode cL_law_ 39 = .ok (.iand, 1) := by decide +kernel
theorem dL_law__40 : decode cL_law_ 40 = .ok (.tableswitch 2383 0 37 #[168, 241, 297, 353, 409, 465, 478, 491, 547, 615, 683, 751, 807, 863, 1023, 1098, 1161, 1217, 1273, 1329, 1385, 1453, 1509, 1565, 1621, 1634, 1713, 1793, 1873, 1929, 1985, 2041, 2097, 2189, 2307, 2320, 2333, 2358], 168) := by decide +kernel
theorem dL_law__208 : decode cL_law_ 208 = .ok (.aload_n 1, 1) := by decide +kernel
theorem dL_law__209 : decode cL_law_ 209 = .ok (.aload_n 0, 1) := by decide +kernel
theorem dL_law__210 : decode cL_law_ 210 = .ok (.iload 4, 2) := by decide +kernel
theorem dL_law__212 : decode cL_law_ 212 = .ok (.iconst 1, 1) := by decide +kernel
theorem dL_law__213 : decode cL_law_ 213 = .ok (.iadd, 1) := by decide +kernel
theorem dL_law__214 : decode cL_law_ 214 = .ok (.iaload, 1) := by decide +kernel
theorem dL_law__215 : decode cL_law_ 215 = .ok (.aload_n 0, 1) := by decide +kernel
theorem dL_law__216 : decode cL_law_ 216 = .ok (.iload 4, 2) := by decide +kernel
theorem dL_law__218 : decode cL_law_ 218 = .ok (.iconst 2, 1) := by decide +kernel
theorem dL_law__219 : decode cL_law_ 219 = .ok (.iadd, 1) := by decide +kernel
theorem dL_law__220 : decode cL_law_ 220 = .ok (.iaload, 1) := by decide +kernel
theorem dL_law__221 : decode cL_law_ 221 = .ok (.aload_n 0, 1) := by decide +kernel
theorem dL_law__222 : decode cL_law_ 222 = .ok (.iload 4, 2) := by decide +kernel
theorem dL_law__224 : decode cL_law_ 224 = .ok (.iconst 3, 1) := by decide +kernel
theorem dL_law__225 : decode cL_law_ 225 = .ok (.iadd, 1) := by decide +kernel
theorem dL_law__226 : decode cL_law_ 226 = .ok (.iaload, 1) := by decide +kernel
theorem dL_law__227 : decode cL_law_ 227 = .ok (.aload_n 0, 1) := by decide +kernel
theorem dL_law__228 : decode cL_law_ 228 = .ok (.iload 4, 2) := by decide +kernel
theorem dL_law__230 : decode cL_law_ 230 = .ok (.iconst 4, 1) := by decide +kernel
theorem dL_law__231 : decode cL_law_ 231 = .ok (.iadd, 1) := by decide +kernel
theorem dL_law__232 : decode cL_law_ 232 = .ok (.iaload, 1) := by decide +kernel
theorem dL_law__233 : decode cL_law_ 233 = .ok (.aload_n 0, 1) := by decide +kernel
theorem dL_law__234 : decode cL_law_ 234 = .ok (.iload 4, 2) := by decide +kernel
theorem dL_law__236 : decode cL_law_ 236 = .ok (.iconst 5, 1) := by decide +kernel
theorem dL_law__237 : decode cL_law_ 237 = .ok (.iadd, 1) := by decide +kernel
theorem dL_law__238 : decode cL_law_ 238 = .ok (.iaload, 1) := by decide +kernel
theorem dL_law__239 : decode cL_law_ 239 = .ok (.invokevirtual 116, 3) := by decide +kernel
theorem dL_law__242 : decode cL_law_ 242 = .ok (.aload_n 2, 1) := by decide +kernel
theorem dL_law__243 : decode cL_law_ 243 = .ok (.aload_n 0, 1) := by decide +kernel
theorem dL_law__244 : decode cL_law_ 244 = .ok (.iload 4, 2) := by decide +kernel
theorem dL_law__246 : decode cL_law_ 246 = .ok (.iconst 1, 1) := by decide +kernel
theorem dL_law__247 : decode cL_law_ 247 = .ok (.iadd, 1) := by decide +kernel
theorem dL_law__248 : decode cL_law_ 248 = .ok (.iaload, 1) := by decide +kernel
theorem dL_law__249 : decode cL_law_ 249 = .ok (.aload_n 0, 1) := by decide +kernel
theorem dL_law__250 : decode cL_law_ 250 = .ok (.iload 4, 2) := by decide +kernel
theorem dL_law__252 : decode cL_law_ 252 = .ok (.iconst 2, 1) := by decide +kernel
theorem dL_law__253 : decode cL_law_ 253 = .ok (.iadd, 1) := by decide +kernel
theorem dL_law__254 : decode cL_law_ 254 = .ok (.iaload, 1) := by decide +kernel
theorem dL_law__255 : decode cL_law_ 255 = .ok (.aload_n 0, 1) := by decide +kernel
theorem dL_law__256 : decode cL_law_ 256 = .ok (.iload 4, 2) := by decide +kernel
theorem dL_law__258 : decode cL_law_ 258 = .ok (.iconst 3, 1) := by decide +kernel
theorem dL_law__259 : decode cL_law_ 259 = .ok (.iadd, 1) := by decide +kernel
theorem dL_law__260 : decode cL_law_ 260 = .ok (.iaload, 1) := by decide +kernel
theorem dL_law__261 : decode cL_law_ 261 = .ok (.aload_n 0, 1) := by decide +kernel
theorem dL_law__262 : decode cL_law_ 262 = .ok (.iload 4, 2) := by decide +kernel
theorem dL_law__264 : decode cL_law_ 264 = .ok (.iconst 4, 1) := by decide +kernel
theorem dL_law__265 : decode cL_law_ 265 = .ok (.iadd, 1) := by decide +kernel
theorem dL_law__266 : decode cL_law_ 266 = .ok (.iaload, 1) := by decide +kernel
theorem dL_law__267 : decode cL_law_ 267 = .ok (.aload_n 0, 1) := by decide +kernel
theorem dL_law__268 : decode cL_law_ 268 = .ok (.iload 4, 2) := by decide +kernel
theorem dL_law__270 : decode cL_law_ 270 = .ok (.iconst 5, 1) := by decide +kernel
theorem dL_law__271 : decode cL_law_ 271 = .ok (.iadd, 1) := by decide +kernel
theorem dL_law__272 : decode cL_law_ 272 = .ok (.iaload, 1) := by decide +kernel
theorem dL_law__273 : decode cL_law_ 273 = .ok (.invokevirtual 120, 3) := by decide +kernel
theorem dL_law__276 : decode cL_law_ 276 = .ok (.if_icmp .eq 2147, 3) := by decide +kernel
theorem dL_law__279 : decode cL_law_ 279 = .ok (.iconst 0, 1) := by decide +kernel
theorem dL_law__280 : decode cL_law_ 280 = .ok (.ireturn, 1) := by decide +kernel
theorem dL_law__281 : decode cL_law_ 281 = .ok (.aload_n 1, 1) := by decide +kernel
theorem dL_law__282 : decode cL_law_ 282 = .ok (.aload_n 0, 1) := by decide +kernel
theorem dL_law__283 : decode cL_law_ 283 = .ok (.iload 4, 2) := by decide +kernel
theorem dL_law__285 : decode cL_law_ 285 = .ok (.iconst 1, 1) := by decide +kernel
theorem dL_law__286 : decode cL_law_ 286 = .ok (.iadd, 1) := by decide +kernel
theorem dL_law__287 : decode cL_law_ 287 = .ok (.iaload, 1) := by decide +kernel
theorem dL_law__288 : decode cL_law_ 288 = .ok (.aload_n 3, 1) := by decide +kernel
theorem dL_law__289 : decode cL_law_ 289 = .ok (.invokestatic 121, 3) := by decide +kernel
theorem dL_law__292 : decode cL_law_ 292 = .ok (.istore 5, 2) := by decide +kernel
theorem dL_law__294 : decode cL_law_ 294 = .ok (.aload_n 2, 1) := by decide +kernel
theorem dL_law__295 : decode cL_law_ 295 = .ok (.aload_n 0, 1) := by decide +kernel
theorem dL_law__296 : decode cL_law_ 296 = .ok (.iload 4, 2) := by decide +kernel
theorem dL_law__298 : decode cL_law_ 298 = .ok (.iconst 1, 1) := by decide +kernel
theorem dL_law__299 : decode cL_law_ 299 = .ok (.iadd, 1) := by decide +kernel
theorem dL_law__300 : decode cL_law_ 300 = .ok (.iaload, 1) := by decide +kernel
theorem dL_law__301 : decode cL_law_ 301 = .ok (.invokevirtual 126, 3) := by decide +kernel
theorem dL_law__304 : decode cL_law_ 304 = .ok (.istore 6, 2) := by decide +kernel
theorem dL_law__306 : decode cL_law_ 306 = .ok (.aload_n 2, 1) := by decide +kernel
theorem dL_law__307 : decode cL_law_ 307 = .ok (.invokevirtual 127, 3) := by decide +kernel
theorem dL_law__310 : decode cL_law_ 310 = .ok (.iload 5, 2) := by decide +kernel
theorem dL_law__312 : decode cL_law_ 312 = .ok (.if_icmp .eq 5, 3) := by decide +kernel
theorem dL_law__315 : decode cL_law_ 315 = .ok (.iconst 0, 1) := by decide +kernel
theorem dL_law__316 : decode cL_law_ 316 = .ok (.ireturn, 1) := by decide +kernel
theorem dL_law__317 : decode cL_law_ 317 = .ok (.iload 5, 2) := by decide +kernel
theorem dL_law__319 : decode cL_law_ 319 = .ok (.ifCond .ne 15, 3) := by decide +kernel
theorem dL_law__322 : decode cL_law_ 322 = .ok (.aload_n 3, 1) := by decide +kernel
theorem dL_law__323 : decode cL_law_ 323 = .ok (.iconst 0, 1) := by decide +kernel
theorem dL_law__324 : decode cL_law_ 324 = .ok (.laload, 1) := by decide +kernel
theorem dL_law__325 : decode cL_law_ 325 = .ok (.iload 6, 2) := by decide +kernel
theorem dL_law__327 : decode cL_law_ 327 = .ok (.i2l, 1) := by decide +kernel
theorem dL_law__328 : decode cL_law_ 328 = .ok (.lcmp, 1) := by decide +kernel
theorem dL_law__329 : decode cL_law_ 329 = .ok (.ifCond .eq 5, 3) := by decide +kernel
theorem dL_law__332 : decode cL_law_ 332 = .ok (.iconst 0, 1) := by decide +kernel
theorem dL_law__333 : decode cL_law_ 333 = .ok (.ireturn, 1) := by decide +kernel
theorem dL_law__334 : decode cL_law_ 334 = .ok (.goto 2089, 3) := by decide +kernel
theorem dL_law__337 : decode cL_law_ 337 = .ok (.aload_n 1, 1) := by decide +kernel
theorem dL_law__338 : decode cL_law_ 338 = .ok (.aload_n 0, 1) := by decide +kernel
theorem dL_law__339 : decode cL_law_ 339 = .ok (.iload 4, 2) := by decide +kernel
theorem dL_law__341 : decode cL_law_ 341 = .ok (.iconst 1, 1) := by decide +kernel
theorem dL_law__342 : decode cL_law_ 342 = .ok (.iadd, 1) := by decide +kernel
theorem dL_law__343 : decode cL_law_ 343 = .ok (.iaload, 1) := by decide +kernel
theorem dL_law__344 : decode cL_law_ 344 = .ok (.aload_n 3, 1) := by decide +kernel
theorem dL_law__345 : decode cL_law_ 345 = .ok (.invokestatic 131, 3) := by decide +kernel
theorem dL_law__348 : decode cL_law_ 348 = .ok (.istore 5, 2) := by decide +kernel
theorem dL_law__350 : decode cL_law_ 350 = .ok (.aload_n 2, 1) := by decide +kernel
theorem dL_law__351 : decode cL_law_ 351 = .ok (.aload_n 0, 1) := by decide +kernel
theorem dL_law__352 : decode cL_law_ 352 = .ok (.iload 4, 2) := by decide +kernel
theorem dL_law__354 : decode cL_law_ 354 = .ok (.iconst 1, 1) := by decide +kernel
theorem dL_law__355 : decode cL_law_ 355 = .ok (.iadd, 1) := by decide +kernel
theorem dL_law__356 : decode cL_law_ 356 = .ok (.iaload, 1) := by decide +kernel
theorem dL_law__357 : decode cL_law_ 357 = .ok (.invokevirtual 133, 3) := by decide +kernel
theorem dL_law__360 : decode cL_law_ 360 = .ok (.istore 6, 2) := by decide +kernel
theorem dL_law__362 : decode cL_law_ 362 = .ok (.aload_n 2, 1) := by decide +kernel
theorem dL_law__363 : decode cL_law_ 363 = .ok (.invokevirtual 127, 3) := by decide +kernel
theorem dL_law__366 : decode cL_law_ 366 = .ok (.iload 5, 2) := by decide +kernel
theorem dL_law__368 : decode cL_law_ 368 = .ok (.if_icmp .eq 5, 3) := by decide +kernel
theorem dL_law__371 : decode cL_law_ 371 = .ok (.iconst 0, 1) := by decide +kernel
theorem dL_law__372 : decode cL_law_ 372 = .ok (.ireturn, 1) := by decide +kernel
theorem dL_law__373 : decode cL_law_ 373 = .ok (.iload 5, 2) := by decide +kernel
theorem dL_law__375 : decode cL_law_ 375 = .ok (.ifCond .ne 15, 3) := by decide +kernel
theorem dL_law__378 : decode cL_law_ 378 = .ok (.aload_n 3, 1) := by decide +kernel
theorem dL_law__379 : decode cL_law_ 379 = .ok (.iconst 0, 1) := by decide +kernel
theorem dL_law__380 : decode cL_law_ 380 = .ok (.laload, 1) := by decide +kernel
theorem dL_law__381 : decode cL_law_ 381 = .ok (.iload 6, 2) := by decide +kernel
theorem dL_law__383 : decode cL_law_ 383 = .ok (.i2l, 1) := by decide +kernel
theorem dL_law__384 : decode cL_law_ 384 = .ok (.lcmp, 1) := by decide +kernel
theorem dL_law__385 : decode cL_law_ 385 = .ok (.ifCond .eq 5, 3) := by decide +kernel
theorem dL_law__388 : decode cL_law_ 388 = .ok (.iconst 0, 1) := by decide +kernel
theorem dL_law__389 : decode cL_law_ 389 = .ok (.ireturn, 1) := by decide +kernel
theorem dL_law__390 : decode cL_law_ 390 = .ok (.goto 2033, 3) := by decide +kernel
theorem dL_law__393 : decode cL_law_ 393 = .ok (.aload_n 1, 1) := by decide +kernel
theorem dL_law__394 : decode cL_law_ 394 = .ok (.aload_n 0, 1) := by decide +kernel
theorem dL_law__395 : decode cL_law_ 395 = .ok (.iload 4, 2) := by decide +kernel
theorem dL_law__397 : decode cL_law_ 397 = .ok (.iconst 1, 1) := by decide +kernel
theorem dL_law__398 : decode cL_law_ 398 = .ok (.iadd, 1) := by decide +kernel
theorem dL_law__399 : decode cL_law_ 399 = .ok (.iaload, 1) := by decide +kernel
theorem dL_law__400 : decode cL_law_ 400 = .ok (.aload_n 3, 1) := by decide +kernel
theorem dL_law__401 : decode cL_law_ 401 = .ok (.invokestatic 134, 3) := by decide +kernel
theorem dL_law__404 : decode cL_law_ 404 = .ok (.istore 5, 2) := by decide +kernel
theorem dL_law__406 : decode cL_law_ 406 = .ok (.aload_n 2, 1) := by decide +kernel
theorem dL_law__407 : decode cL_law_ 407 = .ok (.aload_n 0, 1) := by decide +kernel
theorem dL_law__408 : decode cL_law_ 408 = .ok (.iload 4, 2) := by decide +kernel
theorem dL_law__410 : decode cL_law_ 410 = .ok (.iconst 1, 1) := by decide +kernel
theorem dL_law__411 : decode cL_law_ 411 = .ok (.iadd, 1) := by decide +kernel
theorem dL_law__412 : decode cL_law_ 412 = .ok (.iaload, 1) := by decide +kernel
theorem dL_law__413 : decode cL_law_ 413 = .ok (.invokevirtual 136, 3) := by decide +kernel
theorem dL_law__416 : decode cL_law_ 416 = .ok (.istore 6, 2) := by decide +kernel
theorem dL_law__418 : decode cL_law_ 418 = .ok (.aload_n 2, 1) := by decide +kernel
theorem dL_law__419 : decode cL_law_ 419 = .ok (.invokevirtual 127, 3) := by decide +kernel
theorem dL_law__422 : decode cL_law_ 422 = .ok (.iload 5, 2) := by decide +kernel
theorem dL_law__424 : decode cL_law_ 424 = .ok (.if_icmp .eq 5, 3) := by decide +kernel
theorem dL_law__427 : decode cL_law_ 427 = .ok (.iconst 0, 1) := by decide +kernel
theorem dL_law__428 : decode cL_law_ 428 = .ok (.ireturn, 1) := by decide +kernel
theorem dL_law__429 : decode cL_law_ 429 = .ok (.iload 5, 2) := by decide +kernel
theorem dL_law__431 : decode cL_law_ 431 = .ok (.ifCond .ne 15, 3) := by decide +kernel
theorem dL_law__434 : decode cL_law_ 434 = .ok (.aload_n 3, 1) := by decide +kernel
theorem dL_law__435 : decode cL_law_ 435 = .ok (.iconst 0, 1) := by decide +kernel
theorem dL_law__436 : decode cL_law_ 436 = .ok (.laload, 1) := by decide +kernel
theorem dL_law__437 : decode cL_law_ 437 = .ok (.iload 6, 2) := by decide +kernel
theorem dL_law__439 : decode cL_law_ 439 = .ok (.i2l, 1) := by decide +kernel
theorem dL_law__440 : decode cL_law_ 440 = .ok (.lcmp, 1) := by decide +kernel
theorem dL_law__441 : decode cL_law_ 441 = .ok (.ifCond .eq 5, 3) := by decide +kernel
theorem dL_law__444 : decode cL_law_ 444 = .ok (.iconst 0, 1) := by decide +kernel
theorem dL_law__445 : decode cL_law_ 445 = .ok (.ireturn, 1) := by decide +kernel
theorem dL_law__446 : decode cL_law_ 446 = .ok (.goto 1977, 3) := by decide +kernel
theorem dL_law__449 : decode cL_law_ 449 = .ok (.aload_n 1, 1) := by decide +kernel
theorem dL_law__450 : decode cL_law_ 450 = .ok (.aload_n 0, 1) := by decide +kernel
theorem dL_law__451 : decode cL_law_ 451 = .ok (.iload 4, 2) := by decide +kernel
theorem dL_law__453 : decode cL_law_ 453 = .ok (.iconst 1, 1) := by decide +kernel
theorem dL_law__454 : decode cL_law_ 454 = .ok (.iadd, 1) := by decide +kernel
theorem dL_law__455 : decode cL_law_ 455 = .ok (.iaload, 1) := by decide +kernel
theorem dL_law__456 : decode cL_law_ 456 = .ok (.aload_n 3, 1) := by decide +kernel
theorem dL_law__457 : decode cL_law_ 457 = .ok (.invokestatic 137, 3) := by decide +kernel
theorem dL_law__460 : decode cL_law_ 460 = .ok (.istore 5, 2) := by decide +kernel
theorem dL_law__462 : decode cL_law_ 462 = .ok (.aload_n 2, 1) := by decide +kernel
theorem dL_law__463 : decode cL_law_ 463 = .ok (.aload_n 0, 1) := by decide +kernel
theorem dL_law__464 : decode cL_law_ 464 = .ok (.iload 4, 2) := by decide +kernel
theorem dL_law__466 : decode cL_law_ 466 = .ok (.iconst 1, 1) := by decide +kernel
theorem dL_law__467 : decode cL_law_ 467 = .ok (.iadd, 1) := by decide +kernel
theorem dL_law__468 : decode cL_law_ 468 = .ok (.iaload, 1) := by decide +kernel
theorem dL_law__469 : decode cL_law_ 469 = .ok (.invokevirtual 139, 3) := by decide +kernel
theorem dL_law__472 : decode cL_law_ 472 = .ok (.istore 6, 2) := by decide +kernel
theorem dL_law__474 : decode cL_law_ 474 = .ok (.aload_n 2, 1) := by decide +kernel
theorem dL_law__475 : decode cL_law_ 475 = .ok (.invokevirtual 127, 3) := by decide +kernel
theorem dL_law__478 : decode cL_law_ 478 = .ok (.iload 5, 2) := by decide +kernel
theorem dL_law__480 : decode cL_law_ 480 = .ok (.if_icmp .eq 5, 3) := by decide +kernel
theorem dL_law__483 : decode cL_law_ 483 = .ok (.iconst 0, 1) := by decide +kernel
theorem dL_law__484 : decode cL_law_ 484 = .ok (.ireturn, 1) := by decide +kernel
theorem dL_law__485 : decode cL_law_ 485 = .ok (.iload 5, 2) := by decide +kernel
theorem dL_law__487 : decode cL_law_ 487 = .ok (.ifCond .ne 15, 3) := by decide +kernel
theorem dL_law__490 : decode cL_law_ 490 = .ok (.aload_n 3, 1) := by decide +kernel
theorem dL_law__491 : decode cL_law_ 491 = .ok (.iconst 0, 1) := by decide +kernel
theorem dL_law__492 : decode cL_law_ 492 = .ok (.laload, 1) := by decide +kernel
theorem dL_law__493 : decode cL_law_ 493 = .ok (.iload 6, 2) := by decide +kernel
theorem dL_law__495 : decode cL_law_ 495 = .ok (.i2l, 1) := by decide +kernel
theorem dL_law__496 : decode cL_law_ 496 = .ok (.lcmp, 1) := by decide +kernel
theorem dL_law__497 : decode cL_law_ 497 = .ok (.ifCond .eq 5, 3) := by decide +kernel
theorem dL_law__500 : decode cL_law_ 500 = .ok (.iconst 0, 1) := by decide +kernel
theorem dL_law__501 : decode cL_law_ 501 = .ok (.ireturn, 1) := by decide +kernel
theorem dL_law__502 : decode cL_law_ 502 = .ok (.goto 1921, 3) := by decide +kernel
theorem dL_law__505 : decode cL_law_ 505 = .ok (.aload_n 1, 1) := by decide +kernel
theorem dL_law__506 : decode cL_law_ 506 = .ok (.invokevirtual 140, 3) := by decide +kernel
theorem dL_law__509 : decode cL_law_ 509 = .ok (.aload_n 2, 1) := by decide +kernel
theorem dL_law__510 : decode cL_law_ 510 = .ok (.invokevirtual 143, 3) := by decide +kernel
theorem dL_law__513 : decode cL_law_ 513 = .ok (.if_icmp .eq 1910, 3) := by decide +kernel
theorem dL_law__516 : decode cL_law_ 516 = .ok (.iconst 0, 1) := by decide +kernel
theorem dL_law__517 : decode cL_law_ 517 = .ok (.ireturn, 1) := by decide +kernel
theorem dL_law__518 : decode cL_law_ 518 = .ok (.aload_n 1, 1) := by decide +kernel
theorem dL_law__519 : decode cL_law_ 519 = .ok (.invokevirtual 144, 3) := by decide +kernel
theorem dL_law__522 : decode cL_law_ 522 = .ok (.aload_n 2, 1) := by decide +kernel
theorem dL_law__523 : decode cL_law_ 523 = .ok (.invokevirtual 147, 3) := by decide +kernel
theorem dL_law__526 : decode cL_law_ 526 = .ok (.if_icmp .eq 1897, 3) := by decide +kernel
theorem dL_law__529 : decode cL_law_ 529 = .ok (.iconst 0, 1) := by decide +kernel
theorem dL_law__530 : decode cL_law_ 530 = .ok (.ireturn, 1) := by decide +kernel
theorem dL_law__531 : decode cL_law_ 531 = .ok (.aload_n 1, 1) := by decide +kernel
theorem dL_law__532 : decode cL_law_ 532 = .ok (.aload_n 0, 1) := by decide +kernel
theorem dL_law__533 : decode cL_law_ 533 = .ok (.iload 4, 2) := by decide +kernel
theorem dL_law__535 : decode cL_law_ 535 = .ok (.iconst 1, 1) := by decide +kernel
theorem dL_law__536 : decode cL_law_ 536 = .ok (.iadd, 1) := by decide +kernel
theorem dL_law__537 : decode cL_law_ 537 = .ok (.iaload, 1) := by decide +kernel
theorem dL_law__538 : decode cL_law_ 538 = .ok (.aload_n 3, 1) := by decide +kernel
theorem dL_law__539 : decode cL_law_ 539 = .ok (.invokestatic 148, 3) := by decide +kernel
theorem dL_law__542 : decode cL_law_ 542 = .ok (.istore 5, 2) := by decide +kernel
theorem dL_law__544 : decode cL_law_ 544 = .ok (.aload_n 2, 1) := by decide +kernel
theorem dL_law__545 : decode cL_law_ 545 = .ok (.aload_n 0, 1) := by decide +kernel
theorem dL_law__546 : decode cL_law_ 546 = .ok (.iload 4, 2) := by decide +kernel
theorem dL_law__548 : decode cL_law_ 548 = .ok (.iconst 1, 1) := by decide +kernel
theorem dL_law__549 : decode cL_law_ 549 = .ok (.iadd, 1) := by decide +kernel
theorem dL_law__550 : decode cL_law_ 550 = .ok (.iaload, 1) := by decide +kernel
theorem dL_law__551 : decode cL_law_ 551 = .ok (.invokevirtual 150, 3) := by decide +kernel
theorem dL_law__554 : decode cL_law_ 554 = .ok (.istore 6, 2) := by decide +kernel
theorem dL_law__556 : decode cL_law_ 556 = .ok (.aload_n 2, 1) := by decide +kernel
theorem dL_law__557 : decode cL_law_ 557 = .ok (.invokevirtual 127, 3) := by decide +kernel
theorem dL_law__560 : decode cL_law_ 560 = .ok (.iload 5, 2) := by decide +kernel
theorem dL_law__562 : decode cL_law_ 562 = .ok (.if_icmp .eq 5, 3) := by decide +kernel
theorem dL_law__565 : decode cL_law_ 565 = .ok (.iconst 0, 1) := by decide +kernel
theorem dL_law__566 : decode cL_law_ 566 = .ok (.ireturn, 1) := by decide +kernel
theorem dL_law__567 : decode cL_law_ 567 = .ok (.iload 5, 2) := by decide +kernel
theorem dL_law__569 : decode cL_law_ 569 = .ok (.ifCond .ne 15, 3) := by decide +kernel
theorem dL_law__572 : decode cL_law_ 572 = .ok (.aload_n 3, 1) := by decide +kernel
theorem dL_law__573 : decode cL_law_ 573 = .ok (.iconst 0, 1) := by decide +kernel
theorem dL_law__574 : decode cL_law_ 574 = .ok (.laload, 1) := by decide +kernel
theorem dL_law__575 : decode cL_law_ 575 = .ok (.iload 6, 2) := by decide +kernel
theorem dL_law__577 : decode cL_law_ 577 = .ok (.i2l, 1) := by decide +kernel
theorem dL_law__578 : decode cL_law_ 578 = .ok (.lcmp, 1) := by decide +kernel
theorem dL_law__579 : decode cL_law_ 579 = .ok (.ifCond .eq 5, 3) := by decide +kernel
theorem dL_law__582 : decode cL_law_ 582 = .ok (.iconst 0, 1) := by decide +kernel
theorem dL_law__583 : decode cL_law_ 583 = .ok (.ireturn, 1) := by decide +kernel
theorem dL_law__584 : decode cL_law_ 584 = .ok (.goto 1839, 3) := by decide +kernel
theorem dL_law__587 : decode cL_law_ 587 = .ok (.aload_n 1, 1) := by decide +kernel
theorem dL_law__588 : decode cL_law_ 588 = .ok (.aload_n 0, 1) := by decide +kernel
theorem dL_law__589 : decode cL_law_ 589 = .ok (.iload 4, 2) := by decide +kernel
theorem dL_law__591 : decode cL_law_ 591 = .ok (.iconst 1, 1) := by decide +kernel
theorem dL_law__592 : decode cL_law_ 592 = .ok (.iadd, 1) := by decide +kernel
theorem dL_law__593 : decode cL_law_ 593 = .ok (.iaload, 1) := by decide +kernel
theorem dL_law__594 : decode cL_law_ 594 = .ok (.aload_n 0, 1) := by decide +kernel
theorem dL_law__595 : decode cL_law_ 595 = .ok (.iload 4, 2) := by decide +kernel
theorem dL_law__597 : decode cL_law_ 597 = .ok (.iconst 2, 1) := by decide +kernel
theorem dL_law__598 : decode cL_law_ 598 = .ok (.iadd, 1) := by decide +kernel
theorem dL_law__599 : decode cL_law_ 599 = .ok (.iaload, 1) := by decide +kernel
theorem dL_law__600 : decode cL_law_ 600 = .ok (.aload_n 3, 1) := by decide +kernel
theorem dL_law__601 : decode cL_law_ 601 = .ok (.invokestatic 151, 3) := by decide +kernel
theorem dL_law__604 : decode cL_law_ 604 = .ok (.istore 5, 2) := by decide +kernel
theorem dL_law__606 : decode cL_law_ 606 = .ok (.aload_n 2, 1) := by decide +kernel
theorem dL_law__607 : decode cL_law_ 607 = .ok (.aload_n 0, 1) := by decide +kernel
theorem dL_law__608 : decode cL_law_ 608 = .ok (.iload 4, 2) := by decide +kernel
theorem dL_law__610 : decode cL_law_ 610 = .ok (.iconst 1, 1) := by decide +kernel
theorem dL_law__611 : decode cL_law_ 611 = .ok (.iadd, 1) := by decide +kernel
theorem dL_law__612 : decode cL_law_ 612 = .ok (.iaload, 1) := by decide +kernel
theorem dL_law__613 : decode cL_law_ 613 = .ok (.aload_n 0, 1) := by decide +kernel
theorem dL_law__614 : decode cL_law_ 614 = .ok (.iload 4, 2) := by decide +kernel
theorem dL_law__616 : decode cL_law_ 616 = .ok (.iconst 2, 1) := by decide +kernel
theorem dL_law__617 : decode cL_law_ 617 = .ok (.iadd, 1) := by decide +kernel
theorem dL_law__618 : decode cL_law_ 618 = .ok (.iaload, 1) := by decide +kernel
theorem dL_law__619 : decode cL_law_ 619 = .ok (.invokevirtual 154, 3) := by decide +kernel
theorem dL_law__622 : decode cL_law_ 622 = .ok (.istore 6, 2) := by decide +kernel
theorem dL_law__624 : decode cL_law_ 624 = .ok (.aload_n 2, 1) := by decide +kernel
theorem dL_law__625 : decode cL_law_ 625 = .ok (.invokevirtual 127, 3) := by decide +kernel
theorem dL_law__628 : decode cL_law_ 628 = .ok (.iload 5, 2) := by decide +kernel
theorem dL_law__630 : decode cL_law_ 630 = .ok (.if_icmp .eq 5, 3) := by decide +kernel
theorem dL_law__633 : decode cL_law_ 633 = .ok (.iconst 0, 1) := by decide +kernel
theorem dL_law__634 : decode cL_law_ 634 = .ok (.ireturn, 1) := by decide +kernel
theorem dL_law__635 : decode cL_law_ 635 = .ok (.iload 5, 2) := by decide +kernel
theorem dL_law__637 : decode cL_law_ 637 = .ok (.ifCond .ne 15, 3) := by decide +kernel
theorem dL_law__640 : decode cL_law_ 640 = .ok (.aload_n 3, 1) := by decide +kernel
theorem dL_law__641 : decode cL_law_ 641 = .ok (.iconst 0, 1) := by decide +kernel
theorem dL_law__642 : decode cL_law_ 642 = .ok (.laload, 1) := by decide +kernel
theorem dL_law__643 : decode cL_law_ 643 = .ok (.iload 6, 2) := by decide +kernel
theorem dL_law__645 : decode cL_law_ 645 = .ok (.i2l, 1) := by decide +kernel
theorem dL_law__646 : decode cL_law_ 646 = .ok (.lcmp, 1) := by decide +kernel
theorem dL_law__647 : decode cL_law_ 647 = .ok (.ifCond .eq 5, 3) := by decide +kernel
theorem dL_law__650 : decode cL_law_ 650 = .ok (.iconst 0, 1) := by decide +kernel
theorem dL_law__651 : decode cL_law_ 651 = .ok (.ireturn, 1) := by decide +kernel
theorem dL_law__652 : decode cL_law_ 652 = .ok (.goto 1771, 3) := by decide +kernel
theorem dL_law__655 : decode cL_law_ 655 = .ok (.aload_n 1, 1) := by decide +kernel
theorem dL_law__656 : decode cL_law_ 656 = .ok (.aload_n 0, 1) := by decide +kernel
theorem dL_law__657 : decode cL_law_ 657 = .ok (.iload 4, 2) := by decide +kernel
theorem dL_law__659 : decode cL_law_ 659 = .ok (.iconst 1, 1) := by decide +kernel
theorem dL_law__660 : decode cL_law_ 660 = .ok (.iadd, 1) := by decide +kernel
theorem dL_law__661 : decode cL_law_ 661 = .ok (.iaload, 1) := by decide +kernel
theorem dL_law__662 : decode cL_law_ 662 = .ok (.aload_n 0, 1) := by decide +kernel
theorem dL_law__663 : decode cL_law_ 663 = .ok (.iload 4, 2) := by decide +kernel
theorem dL_law__665 : decode cL_law_ 665 = .ok (.iconst 2, 1) := by decide +kernel
theorem dL_law__666 : decode cL_law_ 666 = .ok (.iadd, 1) := by decide +kernel
theorem dL_law__667 : decode cL_law_ 667 = .ok (.iaload, 1) := by decide +kernel
theorem dL_law__668 : decode cL_law_ 668 = .ok (.aload_n 3, 1) := by decide +kernel
theorem dL_law__669 : decode cL_law_ 669 = .ok (.invokestatic 155, 3) := by decide +kernel
theorem dL_law__672 : decode cL_law_ 672 = .ok (.istore 5, 2) := by decide +kernel
theorem dL_law__674 : decode cL_law_ 674 = .ok (.aload_n 2, 1) := by decide +kernel
theorem dL_law__675 : decode cL_law_ 675 = .ok (.aload_n 0, 1) := by decide +kernel
theorem dL_law__676 : decode cL_law_ 676 = .ok (.iload 4, 2) := by decide +kernel
theorem dL_law__678 : decode cL_law_ 678 = .ok (.iconst 1, 1) := by decide +kernel
theorem dL_law__679 : decode cL_law_ 679 = .ok (.iadd, 1) := by decide +kernel
theorem dL_law__680 : decode cL_law_ 680 = .ok (.iaload, 1) := by decide +kernel
theorem dL_law__681 : decode cL_law_ 681 = .ok (.aload_n 0, 1) := by decide +kernel
theorem dL_law__682 : decode cL_law_ 682 = .ok (.iload 4, 2) := by decide +kernel
theorem dL_law__684 : decode cL_law_ 684 = .ok (.iconst 2, 1) := by decide +kernel
theorem dL_law__685 : decode cL_law_ 685 = .ok (.iadd, 1) := by decide +kernel
theorem dL_law__686 : decode cL_law_ 686 = .ok (.iaload, 1) := by decide +kernel
theorem dL_law__687 : decode cL_law_ 687 = .ok (.invokevirtual 157, 3) := by decide +kernel
theorem dL_law__690 : decode cL_law_ 690 = .ok (.istore 6, 2) := by decide +kernel
theorem dL_law__692 : decode cL_law_ 692 = .ok (.aload_n 2, 1) := by decide +kernel
theorem dL_law__693 : decode cL_law_ 693 = .ok (.invokevirtual 127, 3) := by decide +kernel
theorem dL_law__696 : decode cL_law_ 696 = .ok (.iload 5, 2) := by decide +kernel
theorem dL_law__698 : decode cL_law_ 698 = .ok (.if_icmp .eq 5, 3) := by decide +kernel
theorem dL_law__701 : decode cL_law_ 701 = .ok (.iconst 0, 1) := by decide +kernel
theorem dL_law__702 : decode cL_law_ 702 = .ok (.ireturn, 1) := by decide +kernel
theorem dL_law__703 : decode cL_law_ 703 = .ok (.iload 5, 2) := by decide +kernel
theorem dL_law__705 : decode cL_law_ 705 = .ok (.ifCond .ne 15, 3) := by decide +kernel
theorem dL_law__708 : decode cL_law_ 708 = .ok (.aload_n 3, 1) := by decide +kernel
theorem dL_law__709 : decode cL_law_ 709 = .ok (.iconst 0, 1) := by decide +kernel
theorem dL_law__710 : decode cL_law_ 710 = .ok (.laload, 1) := by decide +kernel
theorem dL_law__711 : decode cL_law_ 711 = .ok (.iload 6, 2) := by decide +kernel
theorem dL_law__713 : decode cL_law_ 713 = .ok (.i2l, 1) := by decide +kernel
theorem dL_law__714 : decode cL_law_ 714 = .ok (.lcmp, 1) := by decide +kernel
theorem dL_law__715 : decode cL_law_ 715 = .ok (.ifCond .eq 5, 3) := by decide +kernel
theorem dL_law__718 : decode cL_law_ 718 = .ok (.iconst 0, 1) := by decide +kernel
theorem dL_law__719 : decode cL_law_ 719 = .ok (.ireturn, 1) := by decide +kernel
theorem dL_law__720 : decode cL_law_ 720 = .ok (.goto 1703, 3) := by decide +kernel
theorem dL_law__723 : decode cL_law_ 723 = .ok (.aload_n 1, 1) := by decide +kernel
theorem dL_law__724 : decode cL_law_ 724 = .ok (.aload_n 0, 1) := by decide +kernel
theorem dL_law__725 : decode cL_law_ 725 = .ok (.iload 4, 2) := by decide +kernel
theorem dL_law__727 : decode cL_law_ 727 = .ok (.iconst 1, 1) := by decide +kernel
theorem dL_law__728 : decode cL_law_ 728 = .ok (.iadd, 1) := by decide +kernel
theorem dL_law__729 : decode cL_law_ 729 = .ok (.iaload, 1) := by decide +kernel
theorem dL_law__730 : decode cL_law_ 730 = .ok (.aload_n 0, 1) := by decide +kernel
theorem dL_law__731 : decode cL_law_ 731 = .ok (.iload 4, 2) := by decide +kernel
theorem dL_law__733 : decode cL_law_ 733 = .ok (.iconst 2, 1) := by decide +kernel
theorem dL_law__734 : decode cL_law_ 734 = .ok (.iadd, 1) := by decide +kernel
theorem dL_law__735 : decode cL_law_ 735 = .ok (.iaload, 1) := by decide +kernel
theorem dL_law__736 : decode cL_law_ 736 = .ok (.aload_n 3, 1) := by decide +kernel
theorem dL_law__737 : decode cL_law_ 737 = .ok (.invokestatic 158, 3) := by decide +kernel
theorem dL_law__740 : decode cL_law_ 740 = .ok (.istore 5, 2) := by decide +kernel
theorem dL_law__742 : decode cL_law_ 742 = .ok (.aload_n 2, 1) := by decide +kernel
theorem dL_law__743 : decode cL_law_ 743 = .ok (.aload_n 0, 1) := by decide +kernel
theorem dL_law__744 : decode cL_law_ 744 = .ok (.iload 4, 2) := by decide +kernel
theorem dL_law__746 : decode cL_law_ 746 = .ok (.iconst 1, 1) := by decide +kernel
theorem dL_law__747 : decode cL_law_ 747 = .ok (.iadd, 1) := by decide +kernel
theorem dL_law__748 : decode cL_law_ 748 = .ok (.iaload, 1) := by decide +kernel
theorem dL_law__749 : decode cL_law_ 749 = .ok (.aload_n 0, 1) := by decide +kernel
theorem dL_law__750 : decode cL_law_ 750 = .ok (.iload 4, 2) := by decide +kernel
theorem dL_law__752 : decode cL_law_ 752 = .ok (.iconst 2, 1) := by decide +kernel
theorem dL_law__753 : decode cL_law_ 753 = .ok (.iadd, 1) := by decide +kernel
theorem dL_law__754 : decode cL_law_ 754 = .ok (.iaload, 1) := by decide +kernel
theorem dL_law__755 : decode cL_law_ 755 = .ok (.invokevirtual 160, 3) := by decide +kernel
theorem dL_law__758 : decode cL_law_ 758 = .ok (.istore 6, 2) := by decide +kernel
theorem dL_law__760 : decode cL_law_ 760 = .ok (.aload_n 2, 1) := by decide +kernel
theorem dL_law__761 : decode cL_law_ 761 = .ok (.invokevirtual 127, 3) := by decide +kernel
theorem dL_law__764 : decode cL_law_ 764 = .ok (.iload 5, 2) := by decide +kernel
theorem dL_law__766 : decode cL_law_ 766 = .ok (.if_icmp .eq 5, 3) := by decide +kernel
theorem dL_law__769 : decode cL_law_ 769 = .ok (.iconst 0, 1) := by decide +kernel
theorem dL_law__770 : decode cL_law_ 770 = .ok (.ireturn, 1) := by decide +kernel
theorem dL_law__771 : decode cL_law_ 771 = .ok (.iload 5, 2) := by decide +kernel
theorem dL_law__773 : decode cL_law_ 773 = .ok (.ifCond .ne 15, 3) := by decide +kernel
theorem dL_law__776 : decode cL_law_ 776 = .ok (.aload_n 3, 1) := by decide +kernel
theorem dL_law__777 : decode cL_law_ 777 = .ok (.iconst 0, 1) := by decide +kernel
theorem dL_law__778 : decode cL_law_ 778 = .ok (.laload, 1) := by decide +kernel
theorem dL_law__779 : decode cL_law_ 779 = .ok (.iload 6, 2) := by decide +kernel
theorem dL_law__781 : decode cL_law_ 781 = .ok (.i2l, 1) := by decide +kernel
theorem dL_law__782 : decode cL_law_ 782 = .ok (.lcmp, 1) := by decide +kernel
theorem dL_law__783 : decode cL_law_ 783 = .ok (.ifCond .eq 5, 3) := by decide +kernel
theorem dL_law__786 : decode cL_law_ 786 = .ok (.iconst 0, 1) := by decide +kernel
theorem dL_law__787 : decode cL_law_ 787 = .ok (.ireturn, 1) := by decide +kernel
theorem dL_law__788 : decode cL_law_ 788 = .ok (.goto 1635, 3) := by decide +kernel
theorem dL_law__791 : decode cL_law_ 791 = .ok (.aload_n 1, 1) := by decide +kernel
theorem dL_law__792 : decode cL_law_ 792 = .ok (.aload_n 0, 1) := by decide +kernel
theorem dL_law__793 : decode cL_law_ 793 = .ok (.iload 4, 2) := by decide +kernel
theorem dL_law__795 : decode cL_law_ 795 = .ok (.iconst 1, 1) := by decide +kernel
theorem dL_law__796 : decode cL_law_ 796 = .ok (.iadd, 1) := by decide +kernel
theorem dL_law__797 : decode cL_law_ 797 = .ok (.iaload, 1) := by decide +kernel
theorem dL_law__798 : decode cL_law_ 798 = .ok (.aload_n 3, 1) := by decide +kernel
theorem dL_law__799 : decode cL_law_ 799 = .ok (.invokestatic 161, 3) := by decide +kernel
theorem dL_law__802 : decode cL_law_ 802 = .ok (.istore 5, 2) := by decide +kernel
theorem dL_law__804 : decode cL_law_ 804 = .ok (.aload_n 2, 1) := by decide +kernel
theorem dL_law__805 : decode cL_law_ 805 = .ok (.aload_n 0, 1) := by decide +kernel
theorem dL_law__806 : decode cL_law_ 806 = .ok (.iload 4, 2) := by decide +kernel
theorem dL_law__808 : decode cL_law_ 808 = .ok (.iconst 1, 1) := by decide +kernel
theorem dL_law__809 : decode cL_law_ 809 = .ok (.iadd, 1) := by decide +kernel
theorem dL_law__810 : decode cL_law_ 810 = .ok (.iaload, 1) := by decide +kernel
theorem dL_law__811 : decode cL_law_ 811 = .ok (.invokevirtual 163, 3) := by decide +kernel
theorem dL_law__814 : decode cL_law_ 814 = .ok (.istore 6, 2) := by decide +kernel
theorem dL_law__816 : decode cL_law_ 816 = .ok (.aload_n 2, 1) := by decide +kernel
theorem dL_law__817 : decode cL_law_ 817 = .ok (.invokevirtual 127, 3) := by decide +kernel
theorem dL_law__820 : decode cL_law_ 820 = .ok (.iload 5, 2) := by decide +kernel
theorem dL_law__822 : decode cL_law_ 822 = .ok (.if_icmp .eq 5, 3) := by decide +kernel
theorem dL_law__825 : decode cL_law_ 825 = .ok (.iconst 0, 1) := by decide +kernel
theorem dL_law__826 : decode cL_law_ 826 = .ok (.ireturn, 1) := by decide +kernel
theorem dL_law__827 : decode cL_law_ 827 = .ok (.iload 5, 2) := by decide +kernel
theorem dL_law__829 : decode cL_law_ 829 = .ok (.ifCond .ne 15, 3) := by decide +kernel
theorem dL_law__832 : decode cL_law_ 832 = .ok (.aload_n 3, 1) := by decide +kernel
theorem dL_law__833 : decode cL_law_ 833 = .ok (.iconst 0, 1) := by decide +kernel
theorem dL_law__834 : decode cL_law_ 834 = .ok (.laload, 1) := by decide +kernel
theorem dL_law__835 : decode cL_law_ 835 = .ok (.iload 6, 2) := by decide +kernel
theorem dL_law__837 : decode cL_law_ 837 = .ok (.i2l, 1) := by decide +kernel
theorem dL_law__838 : decode cL_law_ 838 = .ok (.lcmp, 1) := by decide +kernel
theorem dL_law__839 : decode cL_law_ 839 = .ok (.ifCond .eq 5, 3) := by decide +kernel
theorem dL_law__842 : decode cL_law_ 842 = .ok (.iconst 0, 1) := by decide +kernel
theorem dL_law__843 : decode cL_law_ 843 = .ok (.ireturn, 1) := by decide +kernel
theorem dL_law__844 : decode cL_law_ 844 = .ok (.goto 1579, 3) := by decide +kernel
theorem dL_law__847 : decode cL_law_ 847 = .ok (.aload_n 1, 1) := by decide +kernel
theorem dL_law__848 : decode cL_law_ 848 = .ok (.aload_n 0, 1) := by decide +kernel
theorem dL_law__849 : decode cL_law_ 849 = .ok (.iload 4, 2) := by decide +kernel
theorem dL_law__851 : decode cL_law_ 851 = .ok (.iconst 1, 1) := by decide +kernel
theorem dL_law__852 : decode cL_law_ 852 = .ok (.iadd, 1) := by decide +kernel
theorem dL_law__853 : decode cL_law_ 853 = .ok (.iaload, 1) := by decide +kernel
theorem dL_law__854 : decode cL_law_ 854 = .ok (.aload_n 3, 1) := by decide +kernel
theorem dL_law__855 : decode cL_law_ 855 = .ok (.invokestatic 164, 3) := by decide +kernel
theorem dL_law__858 : decode cL_law_ 858 = .ok (.istore 5, 2) := by decide +kernel
theorem dL_law__860 : decode cL_law_ 860 = .ok (.aload_n 2, 1) := by decide +kernel
theorem dL_law__861 : decode cL_law_ 861 = .ok (.aload_n 0, 1) := by decide +kernel
theorem dL_law__862 : decode cL_law_ 862 = .ok (.iload 4, 2) := by decide +kernel
theorem dL_law__864 : decode cL_law_ 864 = .ok (.iconst 1, 1) := by decide +kernel
theorem dL_law__865 : decode cL_law_ 865 = .ok (.iadd, 1) := by decide +kernel
theorem dL_law__866 : decode cL_law_ 866 = .ok (.iaload, 1) := by decide +kernel
theorem dL_law__867 : decode cL_law_ 867 = .ok (.invokevirtual 166, 3) := by decide +kernel
theorem dL_law__870 : decode cL_law_ 870 = .ok (.istore 6, 2) := by decide +kernel
theorem dL_law__872 : decode cL_law_ 872 = .ok (.aload_n 2, 1) := by decide +kernel
theorem dL_law__873 : decode cL_law_ 873 = .ok (.invokevirtual 127, 3) := by decide +kernel
theorem dL_law__876 : decode cL_law_ 876 = .ok (.iload 5, 2) := by decide +kernel
theorem dL_law__878 : decode cL_law_ 878 = .ok (.if_icmp .eq 5, 3) := by decide +kernel
theorem dL_law__881 : decode cL_law_ 881 = .ok (.iconst 0, 1) := by decide +kernel
theorem dL_law__882 : decode cL_law_ 882 = .ok (.ireturn, 1) := by decide +kernel
theorem dL_law__883 : decode cL_law_ 883 = .ok (.iload 5, 2) := by decide +kernel
theorem dL_law__885 : decode cL_law_ 885 = .ok (.ifCond .ne 15, 3) := by decide +kernel
theorem dL_law__888 : decode cL_law_ 888 = .ok (.aload_n 3, 1) := by decide +kernel
theorem dL_law__889 : decode cL_law_ 889 = .ok (.iconst 0, 1) := by decide +kernel
theorem dL_law__890 : decode cL_law_ 890 = .ok (.laload, 1) := by decide +kernel
theorem dL_law__891 : decode cL_law_ 891 = .ok (.iload 6, 2) := by decide +kernel
theorem dL_law__893 : decode cL_law_ 893 = .ok (.i2l, 1) := by decide +kernel
theorem dL_law__894 : decode cL_law_ 894 = .ok (.lcmp, 1) := by decide +kernel
theorem dL_law__895 : decode cL_law_ 895 = .ok (.ifCond .eq 5, 3) := by decide +kernel
theorem dL_law__898 : decode cL_law_ 898 = .ok (.iconst 0, 1) := by decide +kernel
theorem dL_law__899 : decode cL_law_ 899 = .ok (.ireturn, 1) := by decide +kernel
theorem dL_law__900 : decode cL_law_ 900 = .ok (.goto 1523, 3) := by decide +kernel
theorem dL_law__903 : decode cL_law_ 903 = .ok (.aload_n 1, 1) := by decide +kernel
theorem dL_law__904 : decode cL_law_ 904 = .ok (.aload_n 0, 1) := by decide +kernel
theorem dL_law__905 : decode cL_law_ 905 = .ok (.iload 4, 2) := by decide +kernel
theorem dL_law__907 : decode cL_law_ 907 = .ok (.iconst 1, 1) := by decide +kernel
theorem dL_law__908 : decode cL_law_ 908 = .ok (.iadd, 1) := by decide +kernel
theorem dL_law__909 : decode cL_law_ 909 = .ok (.iaload, 1) := by decide +kernel
theorem dL_law__910 : decode cL_law_ 910 = .ok (.aload_n 0, 1) := by decide +kernel
theorem dL_law__911 : decode cL_law_ 911 = .ok (.iload 4, 2) := by decide +kernel
theorem dL_law__913 : decode cL_law_ 913 = .ok (.iconst 2, 1) := by decide +kernel
theorem dL_law__914 : decode cL_law_ 914 = .ok (.iadd, 1) := by decide +kernel
theorem dL_law__915 : decode cL_law_ 915 = .ok (.iaload, 1) := by decide +kernel
theorem dL_law__916 : decode cL_law_ 916 = .ok (.aload_n 0, 1) := by decide +kernel
theorem dL_law__917 : decode cL_law_ 917 = .ok (.iload 4, 2) := by decide +kernel
theorem dL_law__919 : decode cL_law_ 919 = .ok (.iconst 3, 1) := by decide +kernel
theorem dL_law__920 : decode cL_law_ 920 = .ok (.iadd, 1) := by decide +kernel
theorem dL_law__921 : decode cL_law_ 921 = .ok (.iaload, 1) := by decide +kernel
theorem dL_law__922 : decode cL_law_ 922 = .ok (.aload_n 0, 1) := by decide +kernel
theorem dL_law__923 : decode cL_law_ 923 = .ok (.iload 4, 2) := by decide +kernel
theorem dL_law__925 : decode cL_law_ 925 = .ok (.iconst 4, 1) := by decide +kernel
theorem dL_law__926 : decode cL_law_ 926 = .ok (.iadd, 1) := by decide +kernel
theorem dL_law__927 : decode cL_law_ 927 = .ok (.iaload, 1) := by decide +kernel
theorem dL_law__928 : decode cL_law_ 928 = .ok (.aload_n 0, 1) := by decide +kernel
theorem dL_law__929 : decode cL_law_ 929 = .ok (.iload 4, 2) := by decide +kernel
theorem dL_law__931 : decode cL_law_ 931 = .ok (.iconst 5, 1) := by decide +kernel
theorem dL_law__932 : decode cL_law_ 932 = .ok (.iadd, 1) := by decide +kernel
theorem dL_law__933 : decode cL_law_ 933 = .ok (.iaload, 1) := by decide +kernel
theorem dL_law__934 : decode cL_law_ 934 = .ok (.aload_n 0, 1) := by decide +kernel
theorem dL_law__935 : decode cL_law_ 935 = .ok (.iload 4, 2) := by decide +kernel
theorem dL_law__937 : decode cL_law_ 937 = .ok (.bipush 6, 2) := by decide +kernel
theorem dL_law__939 : decode cL_law_ 939 = .ok (.iadd, 1) := by decide +kernel
theorem dL_law__940 : decode cL_law_ 940 = .ok (.iaload, 1) := by decide +kernel
theorem dL_law__941 : decode cL_law_ 941 = .ok (.aload_n 0, 1) := by decide +kernel
theorem dL_law__942 : decode cL_law_ 942 = .ok (.iload 4, 2) := by decide +kernel
theorem dL_law__944 : decode cL_law_ 944 = .ok (.bipush 7, 2) := by decide +kernel
theorem dL_law__946 : decode cL_law_ 946 = .ok (.iadd, 1) := by decide +kernel
theorem dL_law__947 : decode cL_law_ 947 = .ok (.iaload, 1) := by decide +kernel
theorem dL_law__948 : decode cL_law_ 948 = .ok (.aload_n 0, 1) := by decide +kernel
theorem dL_law__949 : decode cL_law_ 949 = .ok (.iload 4, 2) := by decide +kernel
theorem dL_law__951 : decode cL_law_ 951 = .ok (.bipush 8, 2) := by decide +kernel
theorem dL_law__953 : decode cL_law_ 953 = .ok (.iadd, 1) := by decide +kernel
theorem dL_law__954 : decode cL_law_ 954 = .ok (.iaload, 1) := by decide +kernel
theorem dL_law__955 : decode cL_law_ 955 = .ok (.aload_n 0, 1) := by decide +kernel
theorem dL_law__956 : decode cL_law_ 956 = .ok (.iload 4, 2) := by decide +kernel
theorem dL_law__958 : decode cL_law_ 958 = .ok (.bipush 9, 2) := by decide +kernel
theorem dL_law__960 : decode cL_law_ 960 = .ok (.iadd, 1) := by decide +kernel
theorem dL_law__961 : decode cL_law_ 961 = .ok (.iaload, 1) := by decide +kernel
theorem dL_law__962 : decode cL_law_ 962 = .ok (.aload_n 3, 1) := by decide +kernel
theorem dL_law__963 : decode cL_law_ 963 = .ok (.invokestatic 167, 3) := by decide +kernel
theorem dL_law__966 : decode cL_law_ 966 = .ok (.istore 5, 2) := by decide +kernel
theorem dL_law__968 : decode cL_law_ 968 = .ok (.aload_n 2, 1) := by decide +kernel
theorem dL_law__969 : decode cL_law_ 969 = .ok (.aload_n 0, 1) := by decide +kernel
theorem dL_law__970 : decode cL_law_ 970 = .ok (.iload 4, 2) := by decide +kernel
theorem dL_law__972 : decode cL_law_ 972 = .ok (.iconst 1, 1) := by decide +kernel
theorem dL_law__973 : decode cL_law_ 973 = .ok (.iadd, 1) := by decide +kernel
theorem dL_law__974 : decode cL_law_ 974 = .ok (.iaload, 1) := by decide +kernel
theorem dL_law__975 : decode cL_law_ 975 = .ok (.aload_n 0, 1) := by decide +kernel
theorem dL_law__976 : decode cL_law_ 976 = .ok (.iload 4, 2) := by decide +kernel
theorem dL_law__978 : decode cL_law_ 978 = .ok (.iconst 2, 1) := by decide +kernel
theorem dL_law__979 : decode cL_law_ 979 = .ok (.iadd, 1) := by decide +kernel
theorem dL_law__980 : decode cL_law_ 980 = .ok (.iaload, 1) := by decide +kernel
theorem dL_law__981 : decode cL_law_ 981 = .ok (.aload_n 0, 1) := by decide +kernel
theorem dL_law__982 : decode cL_law_ 982 = .ok (.iload 4, 2) := by decide +kernel
theorem dL_law__984 : decode cL_law_ 984 = .ok (.iconst 3, 1) := by decide +kernel
theorem dL_law__985 : decode cL_law_ 985 = .ok (.iadd, 1) := by decide +kernel
theorem dL_law__986 : decode cL_law_ 986 = .ok (.iaload, 1) := by decide +kernel
theorem dL_law__987 : decode cL_law_ 987 = .ok (.aload_n 0, 1) := by decide +kernel
theorem dL_law__988 : decode cL_law_ 988 = .ok (.iload 4, 2) := by decide +kernel
theorem dL_law__990 : decode cL_law_ 990 = .ok (.iconst 4, 1) := by decide +kernel
theorem dL_law__991 : decode cL_law_ 991 = .ok (.iadd, 1) := by decide +kernel
theorem dL_law__992 : decode cL_law_ 992 = .ok (.iaload, 1) := by decide +kernel
theorem dL_law__993 : decode cL_law_ 993 = .ok (.aload_n 0, 1) := by decide +kernel
theorem dL_law__994 : decode cL_law_ 994 = .ok (.iload 4, 2) := by decide +kernel
theorem dL_law__996 : decode cL_law_ 996 = .ok (.iconst 5, 1) := by decide +kernel
theorem dL_law__997 : decode cL_law_ 997 = .ok (.iadd, 1) := by decide +kernel
theorem dL_law__998 : decode cL_law_ 998 = .ok (.iaload, 1) := by decide +kernel
theorem dL_law__999 : decode cL_law_ 999 = .ok (.aload_n 0, 1) := by decide +kernel
theorem dL_law__1000 : decode cL_law_ 1000 = .ok (.iload 4, 2) := by decide +kernel
theorem dL_law__1002 : decode cL_law_ 1002 = .ok (.bipush 6, 2) := by decide +kernel
theorem dL_law__1004 : decode cL_law_ 1004 = .ok (.iadd, 1) := by decide +kernel
theorem dL_law__1005 : decode cL_law_ 1005 = .ok (.iaload, 1) := by decide +kernel
theorem dL_law__1006 : decode cL_law_ 1006 = .ok (.aload_n 0, 1) := by decide +kernel
theorem dL_law__1007 : decode cL_law_ 1007 = .ok (.iload 4, 2) := by decide +kernel
theorem dL_law__1009 : decode cL_law_ 1009 = .ok (.bipush 7, 2) := by decide +kernel
theorem dL_law__1011 : decode cL_law_ 1011 = .ok (.iadd, 1) := by decide +kernel
theorem dL_law__1012 : decode cL_law_ 1012 = .ok (.iaload, 1) := by decide +kernel
theorem dL_law__1013 : decode cL_law_ 1013 = .ok (.aload_n 0, 1) := by decide +kernel
theorem dL_law__1014 : decode cL_law_ 1014 = .ok (.iload 4, 2) := by decide +kernel
theorem dL_law__1016 : decode cL_law_ 1016 = .ok (.bipush 8, 2) := by decide +kernel
theorem dL_law__1018 : decode cL_law_ 1018 = .ok (.iadd, 1) := by decide +kernel
theorem dL_law__1019 : decode cL_law_ 1019 = .ok (.iaload, 1) := by decide +kernel
theorem dL_law__1020 : decode cL_law_ 1020 = .ok (.aload_n 0, 1) := by decide +kernel
theorem dL_law__1021 : decode cL_law_ 1021 = .ok (.iload 4, 2) := by decide +kernel
theorem dL_law__1023 : decode cL_law_ 1023 = .ok (.bipush 9, 2) := by decide +kernel
theorem dL_law__1025 : decode cL_law_ 1025 = .ok (.iadd, 1) := by decide +kernel
theorem dL_law__1026 : decode cL_law_ 1026 = .ok (.iaload, 1) := by decide +kernel
theorem dL_law__1027 : decode cL_law_ 1027 = .ok (.invokevirtual 170, 3) := by decide +kernel
theorem dL_law__1030 : decode cL_law_ 1030 = .ok (.istore 6, 2) := by decide +kernel
theorem dL_law__1032 : decode cL_law_ 1032 = .ok (.aload_n 2, 1) := by decide +kernel
theorem dL_law__1033 : decode cL_law_ 1033 = .ok (.invokevirtual 127, 3) := by decide +kernel
theorem dL_law__1036 : decode cL_law_ 1036 = .ok (.iload 5, 2) := by decide +kernel
theorem dL_law__1038 : decode cL_law_ 1038 = .ok (.if_icmp .eq 5, 3) := by decide +kernel
theorem dL_law__1041 : decode cL_law_ 1041 = .ok (.iconst 0, 1) := by decide +kernel
theorem dL_law__1042 : decode cL_law_ 1042 = .ok (.ireturn, 1) := by decide +kernel
theorem dL_law__1043 : decode cL_law_ 1043 = .ok (.iload 5, 2) := by decide +kernel
theorem dL_law__1045 : decode cL_law_ 1045 = .ok (.ifCond .ne 15, 3) := by decide +kernel
theorem dL_law__1048 : decode cL_law_ 1048 = .ok (.aload_n 3, 1) := by decide +kernel
theorem dL_law__1049 : decode cL_law_ 1049 = .ok (.iconst 0, 1) := by decide +kernel
theorem dL_law__1050 : decode cL_law_ 1050 = .ok (.laload, 1) := by decide +kernel
theorem dL_law__1051 : decode cL_law_ 1051 = .ok (.iload 6, 2) := by decide +kernel
theorem dL_law__1053 : decode cL_law_ 1053 = .ok (.i2l, 1) := by decide +kernel
theorem dL_law__1054 : decode cL_law_ 1054 = .ok (.lcmp, 1) := by decide +kernel
theorem dL_law__1055 : decode cL_law_ 1055 = .ok (.ifCond .eq 5, 3) := by decide +kernel
theorem dL_law__1058 : decode cL_law_ 1058 = .ok (.iconst 0, 1) := by decide +kernel
theorem dL_law__1059 : decode cL_law_ 1059 = .ok (.ireturn, 1) := by decide +kernel
theorem dL_law__1060 : decode cL_law_ 1060 = .ok (.goto 1363, 3) := by decide +kernel
theorem dL_law__1063 : decode cL_law_ 1063 = .ok (.aload_n 1, 1) := by decide +kernel
theorem dL_law__1064 : decode cL_law_ 1064 = .ok (.aload_n 0, 1) := by decide +kernel
theorem dL_law__1065 : decode cL_law_ 1065 = .ok (.iload 4, 2) := by decide +kernel
theorem dL_law__1067 : decode cL_law_ 1067 = .ok (.iconst 1, 1) := by decide +kernel
theorem dL_law__1068 : decode cL_law_ 1068 = .ok (.iadd, 1) := by decide +kernel
theorem dL_law__1069 : decode cL_law_ 1069 = .ok (.iaload, 1) := by decide +kernel
theorem dL_law__1070 : decode cL_law_ 1070 = .ok (.aload_n 0, 1) := by decide +kernel
theorem dL_law__1071 : decode cL_law_ 1071 = .ok (.iload 4, 2) := by decide +kernel
theorem dL_law__1073 : decode cL_law_ 1073 = .ok (.iconst 2, 1) := by decide +kernel
theorem dL_law__1074 : decode cL_law_ 1074 = .ok (.iadd, 1) := by decide +kernel
theorem dL_law__1075 : decode cL_law_ 1075 = .ok (.iaload, 1) := by decide +kernel
theorem dL_law__1076 : decode cL_law_ 1076 = .ok (.aload_n 3, 1) := by decide +kernel
theorem dL_law__1077 : decode cL_law_ 1077 = .ok (.invokestatic 171, 3) := by decide +kernel
theorem dL_law__1080 : decode cL_law_ 1080 = .ok (.istore 5, 2) := by decide +kernel
theorem dL_law__1082 : decode cL_law_ 1082 = .ok (.aload_n 2, 1) := by decide +kernel
theorem dL_law__1083 : decode cL_law_ 1083 = .ok (.aload_n 0, 1) := by decide +kernel
theorem dL_law__1084 : decode cL_law_ 1084 = .ok (.iload 4, 2) := by decide +kernel
theorem dL_law__1086 : decode cL_law_ 1086 = .ok (.iconst 1, 1) := by decide +kernel
theorem dL_law__1087 : decode cL_law_ 1087 = .ok (.iadd, 1) := by decide +kernel
theorem dL_law__1088 : decode cL_law_ 1088 = .ok (.iaload, 1) := by decide +kernel
theorem dL_law__1089 : decode cL_law_ 1089 = .ok (.aload_n 0, 1) := by decide +kernel
theorem dL_law__1090 : decode cL_law_ 1090 = .ok (.iload 4, 2) := by decide +kernel
theorem dL_law__1092 : decode cL_law_ 1092 = .ok (.iconst 2, 1) := by decide +kernel
theorem dL_law__1093 : decode cL_law_ 1093 = .ok (.iadd, 1) := by decide +kernel
theorem dL_law__1094 : decode cL_law_ 1094 = .ok (.iaload, 1) := by decide +kernel
theorem dL_law__1095 : decode cL_law_ 1095 = .ok (.invokevirtual 173, 3) := by decide +kernel
theorem dL_law__1098 : decode cL_law_ 1098 = .ok (.istore 6, 2) := by decide +kernel
theorem dL_law__1100 : decode cL_law_ 1100 = .ok (.aload_n 2, 1) := by decide +kernel
theorem dL_law__1101 : decode cL_law_ 1101 = .ok (.invokevirtual 127, 3) := by decide +kernel
theorem dL_law__1104 : decode cL_law_ 1104 = .ok (.iload 5, 2) := by decide +kernel
theorem dL_law__1106 : decode cL_law_ 1106 = .ok (.if_icmp .eq 5, 3) := by decide +kernel
theorem dL_law__1109 : decode cL_law_ 1109 = .ok (.iconst 0, 1) := by decide +kernel
theorem dL_law__1110 : decode cL_law_ 1110 = .ok (.ireturn, 1) := by decide +kernel
theorem dL_law__1111 : decode cL_law_ 1111 = .ok (.iload 5, 2) := by decide +kernel
theorem dL_law__1113 : decode cL_law_ 1113 = .ok (.ifCond .ne 22, 3) := by decide +kernel
theorem dL_law__1116 : decode cL_law_ 1116 = .ok (.aload_n 3, 1) := by decide +kernel
theorem dL_law__1117 : decode cL_law_ 1117 = .ok (.iconst 0, 1) := by decide +kernel
theorem dL_law__1118 : decode cL_law_ 1118 = .ok (.laload, 1) := by decide +kernel
theorem dL_law__1119 : decode cL_law_ 1119 = .ok (.iload 6, 2) := by decide +kernel
theorem dL_law__1121 : decode cL_law_ 1121 = .ok (.ifCond .eq 7, 3) := by decide +kernel
theorem dL_law__1124 : decode cL_law_ 1124 = .ok (.lconst 1, 1) := by decide +kernel
theorem dL_law__1125 : decode cL_law_ 1125 = .ok (.goto 4, 3) := by decide +kernel
theorem dL_law__1128 : decode cL_law_ 1128 = .ok (.lconst 0, 1) := by decide +kernel
theorem dL_law__1129 : decode cL_law_ 1129 = .ok (.lcmp, 1) := by decide +kernel
theorem dL_law__1130 : decode cL_law_ 1130 = .ok (.ifCond .eq 5, 3) := by decide +kernel
theorem dL_law__1133 : decode cL_law_ 1133 = .ok (.iconst 0, 1) := by decide +kernel
theorem dL_law__1134 : decode cL_law_ 1134 = .ok (.ireturn, 1) := by decide +kernel
theorem dL_law__1135 : decode cL_law_ 1135 = .ok (.goto 1288, 3) := by decide +kernel
theorem dL_law__1138 : decode cL_law_ 1138 = .ok (.aload_n 1, 1) := by decide +kernel
theorem dL_law__1139 : decode cL_law_ 1139 = .ok (.aload_n 0, 1) := by decide +kernel
theorem dL_law__1140 : decode cL_law_ 1140 = .ok (.iload 4, 2) := by decide +kernel
theorem dL_law__1142 : decode cL_law_ 1142 = .ok (.iconst 1, 1) := by decide +kernel
theorem dL_law__1143 : decode cL_law_ 1143 = .ok (.iadd, 1) := by decide +kernel
theorem dL_law__1144 : decode cL_law_ 1144 = .ok (.iaload, 1) := by decide +kernel
theorem dL_law__1145 : decode cL_law_ 1145 = .ok (.aload_n 3, 1) := by decide +kernel
theorem dL_law__1146 : decode cL_law_ 1146 = .ok (.invokestatic 174, 3) := by decide +kernel
theorem dL_law__1149 : decode cL_law_ 1149 = .ok (.istore 5, 2) := by decide +kernel
theorem dL_law__1151 : decode cL_law_ 1151 = .ok (.aload_n 2, 1) := by decide +kernel
theorem dL_law__1152 : decode cL_law_ 1152 = .ok (.aload_n 0, 1) := by decide +kernel
theorem dL_law__1153 : decode cL_law_ 1153 = .ok (.iload 4, 2) := by decide +kernel
theorem dL_law__1155 : decode cL_law_ 1155 = .ok (.iconst 1, 1) := by decide +kernel
theorem dL_law__1156 : decode cL_law_ 1156 = .ok (.iadd, 1) := by decide +kernel
theorem dL_law__1157 : decode cL_law_ 1157 = .ok (.iaload, 1) := by decide +kernel
theorem dL_law__1158 : decode cL_law_ 1158 = .ok (.invokevirtual 176, 3) := by decide +kernel
theorem dL_law__1161 : decode cL_law_ 1161 = .ok (.istore 6, 2) := by decide +kernel
theorem dL_law__1163 : decode cL_law_ 1163 = .ok (.aload_n 2, 1) := by decide +kernel
theorem dL_law__1164 : decode cL_law_ 1164 = .ok (.invokevirtual 127, 3) := by decide +kernel
theorem dL_law__1167 : decode cL_law_ 1167 = .ok (.iload 5, 2) := by decide +kernel
theorem dL_law__1169 : decode cL_law_ 1169 = .ok (.if_icmp .eq 5, 3) := by decide +kernel
theorem dL_law__1172 : decode cL_law_ 1172 = .ok (.iconst 0, 1) := by decide +kernel
theorem dL_law__1173 : decode cL_law_ 1173 = .ok (.ireturn, 1) := by decide +kernel
theorem dL_law__1174 : decode cL_law_ 1174 = .ok (.iload 5, 2) := by decide +kernel
theorem dL_law__1176 : decode cL_law_ 1176 = .ok (.ifCond .ne 22, 3) := by decide +kernel
theorem dL_law__1179 : decode cL_law_ 1179 = .ok (.aload_n 3, 1) := by decide +kernel
theorem dL_law__1180 : decode cL_law_ 1180 = .ok (.iconst 0, 1) := by decide +kernel
theorem dL_law__1181 : decode cL_law_ 1181 = .ok (.laload, 1) := by decide +kernel
theorem dL_law__1182 : decode cL_law_ 1182 = .ok (.iload 6, 2) := by decide +kernel
theorem dL_law__1184 : decode cL_law_ 1184 = .ok (.ifCond .eq 7, 3) := by decide +kernel
theorem dL_law__1187 : decode cL_law_ 1187 = .ok (.lconst 1, 1) := by decide +kernel
theorem dL_law__1188 : decode cL_law_ 1188 = .ok (.goto 4, 3) := by decide +kernel
theorem dL_law__1191 : decode cL_law_ 1191 = .ok (.lconst 0, 1) := by decide +kernel
theorem dL_law__1192 : decode cL_law_ 1192 = .ok (.lcmp, 1) := by decide +kernel
theorem dL_law__1193 : decode cL_law_ 1193 = .ok (.ifCond .eq 5, 3) := by decide +kernel
theorem dL_law__1196 : decode cL_law_ 1196 = .ok (.iconst 0, 1) := by decide +kernel
theorem dL_law__1197 : decode cL_law_ 1197 = .ok (.ireturn, 1) := by decide +kernel
theorem dL_law__1198 : decode cL_law_ 1198 = .ok (.goto 1225, 3) := by decide +kernel
theorem dL_law__1201 : decode cL_law_ 1201 = .ok (.aload_n 1, 1) := by decide +kernel
theorem dL_law__1202 : decode cL_law_ 1202 = .ok (.aload_n 0, 1) := by decide +kernel
theorem dL_law__1203 : decode cL_law_ 1203 = .ok (.iload 4, 2) := by decide +kernel
theorem dL_law__1205 : decode cL_law_ 1205 = .ok (.iconst 1, 1) := by decide +kernel
theorem dL_law__1206 : decode cL_law_ 1206 = .ok (.iadd, 1) := by decide +kernel
theorem dL_law__1207 : decode cL_law_ 1207 = .ok (.iaload, 1) := by decide +kernel
theorem dL_law__1208 : decode cL_law_ 1208 = .ok (.aload_n 3, 1) := by decide +kernel
theorem dL_law__1209 : decode cL_law_ 1209 = .ok (.invokestatic 177, 3) := by decide +kernel
theorem dL_law__1212 : decode cL_law_ 1212 = .ok (.istore 5, 2) := by decide +kernel
theorem dL_law__1214 : decode cL_law_ 1214 = .ok (.aload_n 2, 1) := by decide +kernel
theorem dL_law__1215 : decode cL_law_ 1215 = .ok (.aload_n 0, 1) := by decide +kernel
theorem dL_law__1216 : decode cL_law_ 1216 = .ok (.iload 4, 2) := by decide +kernel
theorem dL_law__1218 : decode cL_law_ 1218 = .ok (.iconst 1, 1) := by decide +kernel
theorem dL_law__1219 : decode cL_law_ 1219 = .ok (.iadd, 1) := by decide +kernel
theorem dL_law__1220 : decode cL_law_ 1220 = .ok (.iaload, 1) := by decide +kernel
theorem dL_law__1221 : decode cL_law_ 1221 = .ok (.invokevirtual 179, 3) := by decide +kernel
theorem dL_law__1224 : decode cL_law_ 1224 = .ok (.istore 6, 2) := by decide +kernel
theorem dL_law__1226 : decode cL_law_ 1226 = .ok (.aload_n 2, 1) := by decide +kernel
theorem dL_law__1227 : decode cL_law_ 1227 = .ok (.invokevirtual 127, 3) := by decide +kernel
theorem dL_law__1230 : decode cL_law_ 1230 = .ok (.iload 5, 2) := by decide +kernel
theorem dL_law__1232 : decode cL_law_ 1232 = .ok (.if_icmp .eq 5, 3) := by decide +kernel
theorem dL_law__1235 : decode cL_law_ 1235 = .ok (.iconst 0, 1) := by decide +kernel
theorem dL_law__1236 : decode cL_law_ 1236 = .ok (.ireturn, 1) := by decide +kernel
theorem dL_law__1237 : decode cL_law_ 1237 = .ok (.iload 5, 2) := by decide +kernel
theorem dL_law__1239 : decode cL_law_ 1239 = .ok (.ifCond .ne 15, 3) := by decide +kernel
theorem dL_law__1242 : decode cL_law_ 1242 = .ok (.aload_n 3, 1) := by decide +kernel
theorem dL_law__1243 : decode cL_law_ 1243 = .ok (.iconst 0, 1) := by decide +kernel
theorem dL_law__1244 : decode cL_law_ 1244 = .ok (.laload, 1) := by decide +kernel
theorem dL_law__1245 : decode cL_law_ 1245 = .ok (.iload 6, 2) := by decide +kernel
theorem dL_law__1247 : decode cL_law_ 1247 = .ok (.i2l, 1) := by decide +kernel
theorem dL_law__1248 : decode cL_law_ 1248 = .ok (.lcmp, 1) := by decide +kernel
theorem dL_law__1249 : decode cL_law_ 1249 = .ok (.ifCond .eq 5, 3) := by decide +kernel
theorem dL_law__1252 : decode cL_law_ 1252 = .ok (.iconst 0, 1) := by decide +kernel
theorem dL_law__1253 : decode cL_law_ 1253 = .ok (.ireturn, 1) := by decide +kernel
theorem dL_law__1254 : decode cL_law_ 1254 = .ok (.goto 1169, 3) := by decide +kernel
theorem dL_law__1257 : decode cL_law_ 1257 = .ok (.aload_n 1, 1) := by decide +kernel
theorem dL_law__1258 : decode cL_law_ 1258 = .ok (.aload_n 0, 1) := by decide +kernel
theorem dL_law__1259 : decode cL_law_ 1259 = .ok (.iload 4, 2) := by decide +kernel
theorem dL_law__1261 : decode cL_law_ 1261 = .ok (.iconst 1, 1) := by decide +kernel
theorem dL_law__1262 : decode cL_law_ 1262 = .ok (.iadd, 1) := by decide +kernel
theorem dL_law__1263 : decode cL_law_ 1263 = .ok (.iaload, 1) := by decide +kernel
theorem dL_law__1264 : decode cL_law_ 1264 = .ok (.aload_n 3, 1) := by decide +kernel
theorem dL_law__1265 : decode cL_law_ 1265 = .ok (.invokestatic 180, 3) := by decide +kernel
theorem dL_law__1268 : decode cL_law_ 1268 = .ok (.istore 5, 2) := by decide +kernel
theorem dL_law__1270 : decode cL_law_ 1270 = .ok (.aload_n 2, 1) := by decide +kernel
theorem dL_law__1271 : decode cL_law_ 1271 = .ok (.aload_n 0, 1) := by decide +kernel
theorem dL_law__1272 : decode cL_law_ 1272 = .ok (.iload 4, 2) := by decide +kernel
theorem dL_law__1274 : decode cL_law_ 1274 = .ok (.iconst 1, 1) := by decide +kernel
theorem dL_law__1275 : decode cL_law_ 1275 = .ok (.iadd, 1) := by decide +kernel
theorem dL_law__1276 : decode cL_law_ 1276 = .ok (.iaload, 1) := by decide +kernel
theorem dL_law__1277 : decode cL_law_ 1277 = .ok (.invokevirtual 182, 3) := by decide +kernel
theorem dL_law__1280 : decode cL_law_ 1280 = .ok (.istore 6, 2) := by decide +kernel
theorem dL_law__1282 : decode cL_law_ 1282 = .ok (.aload_n 2, 1) := by decide +kernel
theorem dL_law__1283 : decode cL_law_ 1283 = .ok (.invokevirtual 127, 3) := by decide +kernel
theorem dL_law__1286 : decode cL_law_ 1286 = .ok (.iload 5, 2) := by decide +kernel
theorem dL_law__1288 : decode cL_law_ 1288 = .ok (.if_icmp .eq 5, 3) := by decide +kernel
theorem dL_law__1291 : decode cL_law_ 1291 = .ok (.iconst 0, 1) := by decide +kernel
theorem dL_law__1292 : decode cL_law_ 1292 = .ok (.ireturn, 1) := by decide +kernel
theorem dL_law__1293 : decode cL_law_ 1293 = .ok (.iload 5, 2) := by decide +kernel
theorem dL_law__1295 : decode cL_law_ 1295 = .ok (.ifCond .ne 15, 3) := by decide +kernel
theorem dL_law__1298 : decode cL_law_ 1298 = .ok (.aload_n 3, 1) := by decide +kernel
theorem dL_law__1299 : decode cL_law_ 1299 = .ok (.iconst 0, 1) := by decide +kernel
theorem dL_law__1300 : decode cL_law_ 1300 = .ok (.laload, 1) := by decide +kernel
theorem dL_law__1301 : decode cL_law_ 1301 = .ok (.iload 6, 2) := by decide +kernel
theorem dL_law__1303 : decode cL_law_ 1303 = .ok (.i2l, 1) := by decide +kernel
theorem dL_law__1304 : decode cL_law_ 1304 = .ok (.lcmp, 1) := by decide +kernel
theorem dL_law__1305 : decode cL_law_ 1305 = .ok (.ifCond .eq 5, 3) := by decide +kernel
theorem dL_law__1308 : decode cL_law_ 1308 = .ok (.iconst 0, 1) := by decide +kernel
theorem dL_law__1309 : decode cL_law_ 1309 = .ok (.ireturn, 1) := by decide +kernel
theorem dL_law__1310 : decode cL_law_ 1310 = .ok (.goto 1113, 3) := by decide +kernel
theorem dL_law__1313 : decode cL_law_ 1313 = .ok (.aload_n 1, 1) := by decide +kernel
theorem dL_law__1314 : decode cL_law_ 1314 = .ok (.aload_n 0, 1) := by decide +kernel
theorem dL_law__1315 : decode cL_law_ 1315 = .ok (.iload 4, 2) := by decide +kernel
theorem dL_law__1317 : decode cL_law_ 1317 = .ok (.iconst 1, 1) := by decide +kernel
theorem dL_law__1318 : decode cL_law_ 1318 = .ok (.iadd, 1) := by decide +kernel
theorem dL_law__1319 : decode cL_law_ 1319 = .ok (.iaload, 1) := by decide +kernel
theorem dL_law__1320 : decode cL_law_ 1320 = .ok (.aload_n 3, 1) := by decide +kernel
theorem dL_law__1321 : decode cL_law_ 1321 = .ok (.invokestatic 183, 3) := by decide +kernel
theorem dL_law__1324 : decode cL_law_ 1324 = .ok (.istore 5, 2) := by decide +kernel
theorem dL_law__1326 : decode cL_law_ 1326 = .ok (.aload_n 2, 1) := by decide +kernel
theorem dL_law__1327 : decode cL_law_ 1327 = .ok (.aload_n 0, 1) := by decide +kernel
theorem dL_law__1328 : decode cL_law_ 1328 = .ok (.iload 4, 2) := by decide +kernel
theorem dL_law__1330 : decode cL_law_ 1330 = .ok (.iconst 1, 1) := by decide +kernel
theorem dL_law__1331 : decode cL_law_ 1331 = .ok (.iadd, 1) := by decide +kernel
theorem dL_law__1332 : decode cL_law_ 1332 = .ok (.iaload, 1) := by decide +kernel
theorem dL_law__1333 : decode cL_law_ 1333 = .ok (.invokevirtual 185, 3) := by decide +kernel
theorem dL_law__1336 : decode cL_law_ 1336 = .ok (.istore 6, 2) := by decide +kernel
theorem dL_law__1338 : decode cL_law_ 1338 = .ok (.aload_n 2, 1) := by decide +kernel
theorem dL_law__1339 : decode cL_law_ 1339 = .ok (.invokevirtual 127, 3) := by decide +kernel
theorem dL_law__1342 : decode cL_law_ 1342 = .ok (.iload 5, 2) := by decide +kernel
theorem dL_law__1344 : decode cL_law_ 1344 = .ok (.if_icmp .eq 5, 3) := by decide +kernel
theorem dL_law__1347 : decode cL_law_ 1347 = .ok (.iconst 0, 1) := by decide +kernel
theorem dL_law__1348 : decode cL_law_ 1348 = .ok (.ireturn, 1) := by decide +kernel
theorem dL_law__1349 : decode cL_law_ 1349 = .ok (.iload 5, 2) := by decide +kernel
theorem dL_law__1351 : decode cL_law_ 1351 = .ok (.ifCond .ne 15, 3) := by decide +kernel
theorem dL_law__1354 : decode cL_law_ 1354 = .ok (.aload_n 3, 1) := by decide +kernel
theorem dL_law__1355 : decode cL_law_ 1355 = .ok (.iconst 0, 1) := by decide +kernel
theorem dL_law__1356 : decode cL_law_ 1356 = .ok (.laload, 1) := by decide +kernel
theorem dL_law__1357 : decode cL_law_ 1357 = .ok (.iload 6, 2) := by decide +kernel
theorem dL_law__1359 : decode cL_law_ 1359 = .ok (.i2l, 1) := by decide +kernel
theorem dL_law__1360 : decode cL_law_ 1360 = .ok (.lcmp, 1) := by decide +kernel
theorem dL_law__1361 : decode cL_law_ 1361 = .ok (.ifCond .eq 5, 3) := by decide +kernel
theorem dL_law__1364 : decode cL_law_ 1364 = .ok (.iconst 0, 1) := by decide +kernel
theorem dL_law__1365 : decode cL_law_ 1365 = .ok (.ireturn, 1) := by decide +kernel
theorem dL_law__1366 : decode cL_law_ 1366 = .ok (.goto 1057, 3) := by decide +kernel
theorem dL_law__1369 : decode cL_law_ 1369 = .ok (.aload_n 1, 1) := by decide +kernel
theorem dL_law__1370 : decode cL_law_ 1370 = .ok (.aload_n 0, 1) := by decide +kernel
theorem dL_law__1371 : decode cL_law_ 1371 = .ok (.iload 4, 2) := by decide +kernel
theorem dL_law__1373 : decode cL_law_ 1373 = .ok (.iconst 1, 1) := by decide +kernel
theorem dL_law__1374 : decode cL_law_ 1374 = .ok (.iadd, 1) := by decide +kernel
theorem dL_law__1375 : decode cL_law_ 1375 = .ok (.iaload, 1) := by decide +kernel
theorem dL_law__1376 : decode cL_law_ 1376 = .ok (.aload_n 3, 1) := by decide +kernel
theorem dL_law__1377 : decode cL_law_ 1377 = .ok (.invokestatic 186, 3) := by decide +kernel
theorem dL_law__1380 : decode cL_law_ 1380 = .ok (.istore 5, 2) := by decide +kernel
theorem dL_law__1382 : decode cL_law_ 1382 = .ok (.aload_n 2, 1) := by decide +kernel
theorem dL_law__1383 : decode cL_law_ 1383 = .ok (.aload_n 0, 1) := by decide +kernel
theorem dL_law__1384 : decode cL_law_ 1384 = .ok (.iload 4, 2) := by decide +kernel
theorem dL_law__1386 : decode cL_law_ 1386 = .ok (.iconst 1, 1) := by decide +kernel
theorem dL_law__1387 : decode cL_law_ 1387 = .ok (.iadd, 1) := by decide +kernel
theorem dL_law__1388 : decode cL_law_ 1388 = .ok (.iaload, 1) := by decide +kernel
theorem dL_law__1389 : decode cL_law_ 1389 = .ok (.invokevirtual 188, 3) := by decide +kernel
theorem dL_law__1392 : decode cL_law_ 1392 = .ok (.istore 6, 2) := by decide +kernel
theorem dL_law__1394 : decode cL_law_ 1394 = .ok (.aload_n 2, 1) := by decide +kernel
theorem dL_law__1395 : decode cL_law_ 1395 = .ok (.invokevirtual 127, 3) := by decide +kernel
theorem dL_law__1398 : decode cL_law_ 1398 = .ok (.iload 5, 2) := by decide +kernel
theorem dL_law__1400 : decode cL_law_ 1400 = .ok (.if_icmp .eq 5, 3) := by decide +kernel
theorem dL_law__1403 : decode cL_law_ 1403 = .ok (.iconst 0, 1) := by decide +kernel
theorem dL_law__1404 : decode cL_law_ 1404 = .ok (.ireturn, 1) := by decide +kernel
theorem dL_law__1405 : decode cL_law_ 1405 = .ok (.iload 5, 2) := by decide +kernel
theorem dL_law__1407 : decode cL_law_ 1407 = .ok (.ifCond .ne 15, 3) := by decide +kernel
theorem dL_law__1410 : decode cL_law_ 1410 = .ok (.aload_n 3, 1) := by decide +kernel
theorem dL_law__1411 : decode cL_law_ 1411 = .ok (.iconst 0, 1) := by decide +kernel
theorem dL_law__1412 : decode cL_law_ 1412 = .ok (.laload, 1) := by decide +kernel
theorem dL_law__1413 : decode cL_law_ 1413 = .ok (.iload 6, 2) := by decide +kernel
theorem dL_law__1415 : decode cL_law_ 1415 = .ok (.i2l, 1) := by decide +kernel
theorem dL_law__1416 : decode cL_law_ 1416 = .ok (.lcmp, 1) := by decide +kernel
theorem dL_law__1417 : decode cL_law_ 1417 = .ok (.ifCond .eq 5, 3) := by decide +kernel
theorem dL_law__1420 : decode cL_law_ 1420 = .ok (.iconst 0, 1) := by decide +kernel
theorem dL_law__1421 : decode cL_law_ 1421 = .ok (.ireturn, 1) := by decide +kernel
theorem dL_law__1422 : decode cL_law_ 1422 = .ok (.goto 1001, 3) := by decide +kernel
theorem dL_law__1425 : decode cL_law_ 1425 = .ok (.aload_n 1, 1) := by decide +kernel
theorem dL_law__1426 : decode cL_law_ 1426 = .ok (.aload_n 0, 1) := by decide +kernel
theorem dL_law__1427 : decode cL_law_ 1427 = .ok (.iload 4, 2) := by decide +kernel
theorem dL_law__1429 : decode cL_law_ 1429 = .ok (.iconst 1, 1) := by decide +kernel
theorem dL_law__1430 : decode cL_law_ 1430 = .ok (.iadd, 1) := by decide +kernel
theorem dL_law__1431 : decode cL_law_ 1431 = .ok (.iaload, 1) := by decide +kernel
theorem dL_law__1432 : decode cL_law_ 1432 = .ok (.aload_n 0, 1) := by decide +kernel
theorem dL_law__1433 : decode cL_law_ 1433 = .ok (.iload 4, 2) := by decide +kernel
theorem dL_law__1435 : decode cL_law_ 1435 = .ok (.iconst 2, 1) := by decide +kernel
theorem dL_law__1436 : decode cL_law_ 1436 = .ok (.iadd, 1) := by decide +kernel
theorem dL_law__1437 : decode cL_law_ 1437 = .ok (.iaload, 1) := by decide +kernel
theorem dL_law__1438 : decode cL_law_ 1438 = .ok (.aload_n 3, 1) := by decide +kernel
theorem dL_law__1439 : decode cL_law_ 1439 = .ok (.invokestatic 189, 3) := by decide +kernel
theorem dL_law__1442 : decode cL_law_ 1442 = .ok (.istore 5, 2) := by decide +kernel
theorem dL_law__1444 : decode cL_law_ 1444 = .ok (.aload_n 2, 1) := by decide +kernel
theorem dL_law__1445 : decode cL_law_ 1445 = .ok (.aload_n 0, 1) := by decide +kernel
theorem dL_law__1446 : decode cL_law_ 1446 = .ok (.iload 4, 2) := by decide +kernel
theorem dL_law__1448 : decode cL_law_ 1448 = .ok (.iconst 1, 1) := by decide +kernel
theorem dL_law__1449 : decode cL_law_ 1449 = .ok (.iadd, 1) := by decide +kernel
theorem dL_law__1450 : decode cL_law_ 1450 = .ok (.iaload, 1) := by decide +kernel
theorem dL_law__1451 : decode cL_law_ 1451 = .ok (.aload_n 0, 1) := by decide +kernel
theorem dL_law__1452 : decode cL_law_ 1452 = .ok (.iload 4, 2) := by decide +kernel
theorem dL_law__1454 : decode cL_law_ 1454 = .ok (.iconst 2, 1) := by decide +kernel
theorem dL_law__1455 : decode cL_law_ 1455 = .ok (.iadd, 1) := by decide +kernel
theorem dL_law__1456 : decode cL_law_ 1456 = .ok (.iaload, 1) := by decide +kernel
theorem dL_law__1457 : decode cL_law_ 1457 = .ok (.invokevirtual 191, 3) := by decide +kernel
theorem dL_law__1460 : decode cL_law_ 1460 = .ok (.istore 6, 2) := by decide +kernel
theorem dL_law__1462 : decode cL_law_ 1462 = .ok (.aload_n 2, 1) := by decide +kernel
theorem dL_law__1463 : decode cL_law_ 1463 = .ok (.invokevirtual 127, 3) := by decide +kernel
theorem dL_law__1466 : decode cL_law_ 1466 = .ok (.iload 5, 2) := by decide +kernel
theorem dL_law__1468 : decode cL_law_ 1468 = .ok (.if_icmp .eq 5, 3) := by decide +kernel
theorem dL_law__1471 : decode cL_law_ 1471 = .ok (.iconst 0, 1) := by decide +kernel
theorem dL_law__1472 : decode cL_law_ 1472 = .ok (.ireturn, 1) := by decide +kernel
theorem dL_law__1473 : decode cL_law_ 1473 = .ok (.iload 5, 2) := by decide +kernel
theorem dL_law__1475 : decode cL_law_ 1475 = .ok (.ifCond .ne 15, 3) := by decide +kernel
theorem dL_law__1478 : decode cL_law_ 1478 = .ok (.aload_n 3, 1) := by decide +kernel
theorem dL_law__1479 : decode cL_law_ 1479 = .ok (.iconst 0, 1) := by decide +kernel
theorem dL_law__1480 : decode cL_law_ 1480 = .ok (.laload, 1) := by decide +kernel
theorem dL_law__1481 : decode cL_law_ 1481 = .ok (.iload 6, 2) := by decide +kernel
theorem dL_law__1483 : decode cL_law_ 1483 = .ok (.i2l, 1) := by decide +kernel
theorem dL_law__1484 : decode cL_law_ 1484 = .ok (.lcmp, 1) := by decide +kernel
theorem dL_law__1485 : decode cL_law_ 1485 = .ok (.ifCond .eq 5, 3) := by decide +kernel
theorem dL_law__1488 : decode cL_law_ 1488 = .ok (.iconst 0, 1) := by decide +kernel
theorem dL_law__1489 : decode cL_law_ 1489 = .ok (.ireturn, 1) := by decide +kernel
theorem dL_law__1490 : decode cL_law_ 1490 = .ok (.goto 933, 3) := by decide +kernel
theorem dL_law__1493 : decode cL_law_ 1493 = .ok (.aload_n 1, 1) := by decide +kernel
theorem dL_law__1494 : decode cL_law_ 1494 = .ok (.aload_n 0, 1) := by decide +kernel
theorem dL_law__1495 : decode cL_law_ 1495 = .ok (.iload 4, 2) := by decide +kernel
theorem dL_law__1497 : decode cL_law_ 1497 = .ok (.iconst 1, 1) := by decide +kernel
theorem dL_law__1498 : decode cL_law_ 1498 = .ok (.iadd, 1) := by decide +kernel
theorem dL_law__1499 : decode cL_law_ 1499 = .ok (.iaload, 1) := by decide +kernel
theorem dL_law__1500 : decode cL_law_ 1500 = .ok (.aload_n 3, 1) := by decide +kernel
theorem dL_law__1501 : decode cL_law_ 1501 = .ok (.invokestatic 192, 3) := by decide +kernel
theorem dL_law__1504 : decode cL_law_ 1504 = .ok (.istore 5, 2) := by decide +kernel
theorem dL_law__1506 : decode cL_law_ 1506 = .ok (.aload_n 2, 1) := by decide +kernel
theorem dL_law__1507 : decode cL_law_ 1507 = .ok (.aload_n 0, 1) := by decide +kernel
theorem dL_law__1508 : decode cL_law_ 1508 = .ok (.iload 4, 2) := by decide +kernel
theorem dL_law__1510 : decode cL_law_ 1510 = .ok (.iconst 1, 1) := by decide +kernel
theorem dL_law__1511 : decode cL_law_ 1511 = .ok (.iadd, 1) := by decide +kernel
theorem dL_law__1512 : decode cL_law_ 1512 = .ok (.iaload, 1) := by decide +kernel
theorem dL_law__1513 : decode cL_law_ 1513 = .ok (.invokevirtual 194, 3) := by decide +kernel
theorem dL_law__1516 : decode cL_law_ 1516 = .ok (.istore 6, 2) := by decide +kernel
theorem dL_law__1518 : decode cL_law_ 1518 = .ok (.aload_n 2, 1) := by decide +kernel
theorem dL_law__1519 : decode cL_law_ 1519 = .ok (.invokevirtual 127, 3) := by decide +kernel
theorem dL_law__1522 : decode cL_law_ 1522 = .ok (.iload 5, 2) := by decide +kernel
theorem dL_law__1524 : decode cL_law_ 1524 = .ok (.if_icmp .eq 5, 3) := by decide +kernel
theorem dL_law__1527 : decode cL_law_ 1527 = .ok (.iconst 0, 1) := by decide +kernel
theorem dL_law__1528 : decode cL_law_ 1528 = .ok (.ireturn, 1) := by decide +kernel
theorem dL_law__1529 : decode cL_law_ 1529 = .ok (.iload 5, 2) := by decide +kernel
theorem dL_law__1531 : decode cL_law_ 1531 = .ok (.ifCond .ne 15, 3) := by decide +kernel
theorem dL_law__1534 : decode cL_law_ 1534 = .ok (.aload_n 3, 1) := by decide +kernel
theorem dL_law__1535 : decode cL_law_ 1535 = .ok (.iconst 0, 1) := by decide +kernel
theorem dL_law__1536 : decode cL_law_ 1536 = .ok (.laload, 1) := by decide +kernel
theorem dL_law__1537 : decode cL_law_ 1537 = .ok (.iload 6, 2) := by decide +kernel
theorem dL_law__1539 : decode cL_law_ 1539 = .ok (.i2l, 1) := by decide +kernel
theorem dL_law__1540 : decode cL_law_ 1540 = .ok (.lcmp, 1) := by decide +kernel
theorem dL_law__1541 : decode cL_law_ 1541 = .ok (.ifCond .eq 5, 3) := by decide +kernel
theorem dL_law__1544 : decode cL_law_ 1544 = .ok (.iconst 0, 1) := by decide +kernel
theorem dL_law__1545 : decode cL_law_ 1545 = .ok (.ireturn, 1) := by decide +kernel
theorem dL_law__1546 : decode cL_law_ 1546 = .ok (.goto 877, 3) := by decide +kernel
theorem dL_law__1549 : decode cL_law_ 1549 = .ok (.aload_n 1, 1) := by decide +kernel
theorem dL_law__1550 : decode cL_law_ 1550 = .ok (.aload_n 0, 1) := by decide +kernel
theorem dL_law__1551 : decode cL_law_ 1551 = .ok (.iload 4, 2) := by decide +kernel
theorem dL_law__1553 : decode cL_law_ 1553 = .ok (.iconst 1, 1) := by decide +kernel
theorem dL_law__1554 : decode cL_law_ 1554 = .ok (.iadd, 1) := by decide +kernel
theorem dL_law__1555 : decode cL_law_ 1555 = .ok (.iaload, 1) := by decide +kernel
theorem dL_law__1556 : decode cL_law_ 1556 = .ok (.aload_n 3, 1) := by decide +kernel
theorem dL_law__1557 : decode cL_law_ 1557 = .ok (.invokestatic 195, 3) := by decide +kernel
theorem dL_law__1560 : decode cL_law_ 1560 = .ok (.istore 5, 2) := by decide +kernel
theorem dL_law__1562 : decode cL_law_ 1562 = .ok (.aload_n 2, 1) := by decide +kernel
theorem dL_law__1563 : decode cL_law_ 1563 = .ok (.aload_n 0, 1) := by decide +kernel
theorem dL_law__1564 : decode cL_law_ 1564 = .ok (.iload 4, 2) := by decide +kernel
theorem dL_law__1566 : decode cL_law_ 1566 = .ok (.iconst 1, 1) := by decide +kernel
theorem dL_law__1567 : decode cL_law_ 1567 = .ok (.iadd, 1) := by decide +kernel
theorem dL_law__1568 : decode cL_law_ 1568 = .ok (.iaload, 1) := by decide +kernel
theorem dL_law__1569 : decode cL_law_ 1569 = .ok (.invokevirtual 197, 3) := by decide +kernel
theorem dL_law__1572 : decode cL_law_ 1572 = .ok (.istore 6, 2) := by decide +kernel
theorem dL_law__1574 : decode cL_law_ 1574 = .ok (.aload_n 2, 1) := by decide +kernel
theorem dL_law__1575 : decode cL_law_ 1575 = .ok (.invokevirtual 127, 3) := by decide +kernel
theorem dL_law__1578 : decode cL_law_ 1578 = .ok (.iload 5, 2) := by decide +kernel
theorem dL_law__1580 : decode cL_law_ 1580 = .ok (.if_icmp .eq 5, 3) := by decide +kernel
theorem dL_law__1583 : decode cL_law_ 1583 = .ok (.iconst 0, 1) := by decide +kernel
theorem dL_law__1584 : decode cL_law_ 1584 = .ok (.ireturn, 1) := by decide +kernel
theorem dL_law__1585 : decode cL_law_ 1585 = .ok (.iload 5, 2) := by decide +kernel
theorem dL_law__1587 : decode cL_law_ 1587 = .ok (.ifCond .ne 15, 3) := by decide +kernel
theorem dL_law__1590 : decode cL_law_ 1590 = .ok (.aload_n 3, 1) := by decide +kernel
theorem dL_law__1591 : decode cL_law_ 1591 = .ok (.iconst 0, 1) := by decide +kernel
theorem dL_law__1592 : decode cL_law_ 1592 = .ok (.laload, 1) := by decide +kernel
theorem dL_law__1593 : decode cL_law_ 1593 = .ok (.iload 6, 2) := by decide +kernel
theorem dL_law__1595 : decode cL_law_ 1595 = .ok (.i2l, 1) := by decide +kernel
theorem dL_law__1596 : decode cL_law_ 1596 = .ok (.lcmp, 1) := by decide +kernel
theorem dL_law__1597 : decode cL_law_ 1597 = .ok (.ifCond .eq 5, 3) := by decide +kernel
theorem dL_law__1600 : decode cL_law_ 1600 = .ok (.iconst 0, 1) := by decide +kernel
theorem dL_law__1601 : decode cL_law_ 1601 = .ok (.ireturn, 1) := by decide +kernel
theorem dL_law__1602 : decode cL_law_ 1602 = .ok (.goto 821, 3) := by decide +kernel
theorem dL_law__1605 : decode cL_law_ 1605 = .ok (.aload_n 1, 1) := by decide +kernel
theorem dL_law__1606 : decode cL_law_ 1606 = .ok (.aload_n 0, 1) := by decide +kernel
theorem dL_law__1607 : decode cL_law_ 1607 = .ok (.iload 4, 2) := by decide +kernel
theorem dL_law__1609 : decode cL_law_ 1609 = .ok (.iconst 1, 1) := by decide +kernel
theorem dL_law__1610 : decode cL_law_ 1610 = .ok (.iadd, 1) := by decide +kernel
theorem dL_law__1611 : decode cL_law_ 1611 = .ok (.iaload, 1) := by decide +kernel
theorem dL_law__1612 : decode cL_law_ 1612 = .ok (.aload_n 3, 1) := by decide +kernel
theorem dL_law__1613 : decode cL_law_ 1613 = .ok (.invokestatic 198, 3) := by decide +kernel
theorem dL_law__1616 : decode cL_law_ 1616 = .ok (.istore 5, 2) := by decide +kernel
theorem dL_law__1618 : decode cL_law_ 1618 = .ok (.aload_n 2, 1) := by decide +kernel
theorem dL_law__1619 : decode cL_law_ 1619 = .ok (.aload_n 0, 1) := by decide +kernel
theorem dL_law__1620 : decode cL_law_ 1620 = .ok (.iload 4, 2) := by decide +kernel
theorem dL_law__1622 : decode cL_law_ 1622 = .ok (.iconst 1, 1) := by decide +kernel
theorem dL_law__1623 : decode cL_law_ 1623 = .ok (.iadd, 1) := by decide +kernel
theorem dL_law__1624 : decode cL_law_ 1624 = .ok (.iaload, 1) := by decide +kernel
theorem dL_law__1625 : decode cL_law_ 1625 = .ok (.invokevirtual 200, 3) := by decide +kernel
theorem dL_law__1628 : decode cL_law_ 1628 = .ok (.istore 6, 2) := by decide +kernel
theorem dL_law__1630 : decode cL_law_ 1630 = .ok (.aload_n 2, 1) := by decide +kernel
theorem dL_law__1631 : decode cL_law_ 1631 = .ok (.invokevirtual 127, 3) := by decide +kernel
theorem dL_law__1634 : decode cL_law_ 1634 = .ok (.iload 5, 2) := by decide +kernel
theorem dL_law__1636 : decode cL_law_ 1636 = .ok (.if_icmp .eq 5, 3) := by decide +kernel
theorem dL_law__1639 : decode cL_law_ 1639 = .ok (.iconst 0, 1) := by decide +kernel
theorem dL_law__1640 : decode cL_law_ 1640 = .ok (.ireturn, 1) := by decide +kernel
theorem dL_law__1641 : decode cL_law_ 1641 = .ok (.iload 5, 2) := by decide +kernel
theorem dL_law__1643 : decode cL_law_ 1643 = .ok (.ifCond .ne 15, 3) := by decide +kernel
theorem dL_law__1646 : decode cL_law_ 1646 = .ok (.aload_n 3, 1) := by decide +kernel
theorem dL_law__1647 : decode cL_law_ 1647 = .ok (.iconst 0, 1) := by decide +kernel
theorem dL_law__1648 : decode cL_law_ 1648 = .ok (.laload, 1) := by decide +kernel
theorem dL_law__1649 : decode cL_law_ 1649 = .ok (.iload 6, 2) := by decide +kernel
theorem dL_law__1651 : decode cL_law_ 1651 = .ok (.i2l, 1) := by decide +kernel
theorem dL_law__1652 : decode cL_law_ 1652 = .ok (.lcmp, 1) := by decide +kernel
theorem dL_law__1653 : decode cL_law_ 1653 = .ok (.ifCond .eq 5, 3) := by decide +kernel
theorem dL_law__1656 : decode cL_law_ 1656 = .ok (.iconst 0, 1) := by decide +kernel
theorem dL_law__1657 : decode cL_law_ 1657 = .ok (.ireturn, 1) := by decide +kernel
theorem dL_law__1658 : decode cL_law_ 1658 = .ok (.goto 765, 3) := by decide +kernel
theorem dL_law__1661 : decode cL_law_ 1661 = .ok (.aload_n 1, 1) := by decide +kernel
theorem dL_law__1662 : decode cL_law_ 1662 = .ok (.invokevirtual 201, 3) := by decide +kernel
theorem dL_law__1665 : decode cL_law_ 1665 = .ok (.aload_n 2, 1) := by decide +kernel
theorem dL_law__1666 : decode cL_law_ 1666 = .ok (.invokevirtual 204, 3) := by decide +kernel
theorem dL_law__1669 : decode cL_law_ 1669 = .ok (.if_icmp .eq 754, 3) := by decide +kernel
theorem dL_law__1672 : decode cL_law_ 1672 = .ok (.iconst 0, 1) := by decide +kernel
theorem dL_law__1673 : decode cL_law_ 1673 = .ok (.ireturn, 1) := by decide +kernel
theorem dL_law__1674 : decode cL_law_ 1674 = .ok (.aload_n 1, 1) := by decide +kernel
theorem dL_law__1675 : decode cL_law_ 1675 = .ok (.aload_n 0, 1) := by decide +kernel
theorem dL_law__1676 : decode cL_law_ 1676 = .ok (.iload 4, 2) := by decide +kernel
theorem dL_law__1678 : decode cL_law_ 1678 = .ok (.iconst 1, 1) := by decide +kernel
theorem dL_law__1679 : decode cL_law_ 1679 = .ok (.iadd, 1) := by decide +kernel
theorem dL_law__1680 : decode cL_law_ 1680 = .ok (.iaload, 1) := by decide +kernel
theorem dL_law__1681 : decode cL_law_ 1681 = .ok (.aload_n 0, 1) := by decide +kernel
theorem dL_law__1682 : decode cL_law_ 1682 = .ok (.iload 4, 2) := by decide +kernel
theorem dL_law__1684 : decode cL_law_ 1684 = .ok (.iconst 2, 1) := by decide +kernel
theorem dL_law__1685 : decode cL_law_ 1685 = .ok (.iadd, 1) := by decide +kernel
theorem dL_law__1686 : decode cL_law_ 1686 = .ok (.iaload, 1) := by decide +kernel
theorem dL_law__1687 : decode cL_law_ 1687 = .ok (.aload_n 0, 1) := by decide +kernel
theorem dL_law__1688 : decode cL_law_ 1688 = .ok (.iload 4, 2) := by decide +kernel
theorem dL_law__1690 : decode cL_law_ 1690 = .ok (.iconst 3, 1) := by decide +kernel
theorem dL_law__1691 : decode cL_law_ 1691 = .ok (.iadd, 1) := by decide +kernel
theorem dL_law__1692 : decode cL_law_ 1692 = .ok (.iaload, 1) := by decide +kernel
theorem dL_law__1693 : decode cL_law_ 1693 = .ok (.aload_n 3, 1) := by decide +kernel
theorem dL_law__1694 : decode cL_law_ 1694 = .ok (.invokestatic 205, 3) := by decide +kernel
theorem dL_law__1697 : decode cL_law_ 1697 = .ok (.istore 5, 2) := by decide +kernel
theorem dL_law__1699 : decode cL_law_ 1699 = .ok (.aload_n 2, 1) := by decide +kernel
theorem dL_law__1700 : decode cL_law_ 1700 = .ok (.aload_n 0, 1) := by decide +kernel
theorem dL_law__1701 : decode cL_law_ 1701 = .ok (.iload 4, 2) := by decide +kernel
theorem dL_law__1703 : decode cL_law_ 1703 = .ok (.iconst 1, 1) := by decide +kernel
theorem dL_law__1704 : decode cL_law_ 1704 = .ok (.iadd, 1) := by decide +kernel
theorem dL_law__1705 : decode cL_law_ 1705 = .ok (.iaload, 1) := by decide +kernel
theorem dL_law__1706 : decode cL_law_ 1706 = .ok (.aload_n 0, 1) := by decide +kernel
theorem dL_law__1707 : decode cL_law_ 1707 = .ok (.iload 4, 2) := by decide +kernel
theorem dL_law__1709 : decode cL_law_ 1709 = .ok (.iconst 2, 1) := by decide +kernel
theorem dL_law__1710 : decode cL_law_ 1710 = .ok (.iadd, 1) := by decide +kernel
theorem dL_law__1711 : decode cL_law_ 1711 = .ok (.iaload, 1) := by decide +kernel
theorem dL_law__1712 : decode cL_law_ 1712 = .ok (.aload_n 0, 1) := by decide +kernel
theorem dL_law__1713 : decode cL_law_ 1713 = .ok (.iload 4, 2) := by decide +kernel
theorem dL_law__1715 : decode cL_law_ 1715 = .ok (.iconst 3, 1) := by decide +kernel
theorem dL_law__1716 : decode cL_law_ 1716 = .ok (.iadd, 1) := by decide +kernel
theorem dL_law__1717 : decode cL_law_ 1717 = .ok (.iaload, 1) := by decide +kernel
theorem dL_law__1718 : decode cL_law_ 1718 = .ok (.invokevirtual 208, 3) := by decide +kernel
theorem dL_law__1721 : decode cL_law_ 1721 = .ok (.lstore 6, 2) := by decide +kernel
theorem dL_law__1723 : decode cL_law_ 1723 = .ok (.aload_n 2, 1) := by decide +kernel
theorem dL_law__1724 : decode cL_law_ 1724 = .ok (.invokevirtual 127, 3) := by decide +kernel
theorem dL_law__1727 : decode cL_law_ 1727 = .ok (.iload 5, 2) := by decide +kernel
theorem dL_law__1729 : decode cL_law_ 1729 = .ok (.if_icmp .eq 5, 3) := by decide +kernel
theorem dL_law__1732 : decode cL_law_ 1732 = .ok (.iconst 0, 1) := by decide +kernel
theorem dL_law__1733 : decode cL_law_ 1733 = .ok (.ireturn, 1) := by decide +kernel
theorem dL_law__1734 : decode cL_law_ 1734 = .ok (.iload 5, 2) := by decide +kernel
theorem dL_law__1736 : decode cL_law_ 1736 = .ok (.ifCond .ne 14, 3) := by decide +kernel
theorem dL_law__1739 : decode cL_law_ 1739 = .ok (.aload_n 3, 1) := by decide +kernel
theorem dL_law__1740 : decode cL_law_ 1740 = .ok (.iconst 0, 1) := by decide +kernel
theorem dL_law__1741 : decode cL_law_ 1741 = .ok (.laload, 1) := by decide +kernel
theorem dL_law__1742 : decode cL_law_ 1742 = .ok (.lload 6, 2) := by decide +kernel
theorem dL_law__1744 : decode cL_law_ 1744 = .ok (.lcmp, 1) := by decide +kernel
theorem dL_law__1745 : decode cL_law_ 1745 = .ok (.ifCond .eq 5, 3) := by decide +kernel
theorem dL_law__1748 : decode cL_law_ 1748 = .ok (.iconst 0, 1) := by decide +kernel
theorem dL_law__1749 : decode cL_law_ 1749 = .ok (.ireturn, 1) := by decide +kernel
theorem dL_law__1750 : decode cL_law_ 1750 = .ok (.goto 673, 3) := by decide +kernel
theorem dL_law__1753 : decode cL_law_ 1753 = .ok (.aload_n 1, 1) := by decide +kernel
theorem dL_law__1754 : decode cL_law_ 1754 = .ok (.aload_n 0, 1) := by decide +kernel
theorem dL_law__1755 : decode cL_law_ 1755 = .ok (.iload 4, 2) := by decide +kernel
theorem dL_law__1757 : decode cL_law_ 1757 = .ok (.iconst 1, 1) := by decide +kernel
theorem dL_law__1758 : decode cL_law_ 1758 = .ok (.iadd, 1) := by decide +kernel
theorem dL_law__1759 : decode cL_law_ 1759 = .ok (.iaload, 1) := by decide +kernel
theorem dL_law__1760 : decode cL_law_ 1760 = .ok (.aload_n 0, 1) := by decide +kernel
theorem dL_law__1761 : decode cL_law_ 1761 = .ok (.iload 4, 2) := by decide +kernel
theorem dL_law__1763 : decode cL_law_ 1763 = .ok (.iconst 2, 1) := by decide +kernel
theorem dL_law__1764 : decode cL_law_ 1764 = .ok (.iadd, 1) := by decide +kernel
theorem dL_law__1765 : decode cL_law_ 1765 = .ok (.iaload, 1) := by decide +kernel
theorem dL_law__1766 : decode cL_law_ 1766 = .ok (.aload_n 0, 1) := by decide +kernel
theorem dL_law__1767 : decode cL_law_ 1767 = .ok (.iload 4, 2) := by decide +kernel
theorem dL_law__1769 : decode cL_law_ 1769 = .ok (.iconst 3, 1) := by decide +kernel
theorem dL_law__1770 : decode cL_law_ 1770 = .ok (.iadd, 1) := by decide +kernel
theorem dL_law__1771 : decode cL_law_ 1771 = .ok (.iaload, 1) := by decide +kernel
theorem dL_law__1772 : decode cL_law_ 1772 = .ok (.aload_n 3, 1) := by decide +kernel
theorem dL_law__1773 : decode cL_law_ 1773 = .ok (.invokestatic 209, 3) := by decide +kernel
theorem dL_law__1776 : decode cL_law_ 1776 = .ok (.istore 5, 2) := by decide +kernel
theorem dL_law__1778 : decode cL_law_ 1778 = .ok (.aload_n 2, 1) := by decide +kernel
theorem dL_law__1779 : decode cL_law_ 1779 = .ok (.aload_n 0, 1) := by decide +kernel
theorem dL_law__1780 : decode cL_law_ 1780 = .ok (.iload 4, 2) := by decide +kernel
theorem dL_law__1782 : decode cL_law_ 1782 = .ok (.iconst 1, 1) := by decide +kernel
theorem dL_law__1783 : decode cL_law_ 1783 = .ok (.iadd, 1) := by decide +kernel
theorem dL_law__1784 : decode cL_law_ 1784 = .ok (.iaload, 1) := by decide +kernel
theorem dL_law__1785 : decode cL_law_ 1785 = .ok (.aload_n 0, 1) := by decide +kernel
theorem dL_law__1786 : decode cL_law_ 1786 = .ok (.iload 4, 2) := by decide +kernel
theorem dL_law__1788 : decode cL_law_ 1788 = .ok (.iconst 2, 1) := by decide +kernel
theorem dL_law__1789 : decode cL_law_ 1789 = .ok (.iadd, 1) := by decide +kernel
theorem dL_law__1790 : decode cL_law_ 1790 = .ok (.iaload, 1) := by decide +kernel
theorem dL_law__1791 : decode cL_law_ 1791 = .ok (.aload_n 0, 1) := by decide +kernel
theorem dL_law__1792 : decode cL_law_ 1792 = .ok (.iload 4, 2) := by decide +kernel
theorem dL_law__1794 : decode cL_law_ 1794 = .ok (.iconst 3, 1) := by decide +kernel
theorem dL_law__1795 : decode cL_law_ 1795 = .ok (.iadd, 1) := by decide +kernel
theorem dL_law__1796 : decode cL_law_ 1796 = .ok (.iaload, 1) := by decide +kernel
theorem dL_law__1797 : decode cL_law_ 1797 = .ok (.invokevirtual 211, 3) := by decide +kernel
theorem dL_law__1800 : decode cL_law_ 1800 = .ok (.istore 6, 2) := by decide +kernel
theorem dL_law__1802 : decode cL_law_ 1802 = .ok (.aload_n 2, 1) := by decide +kernel
theorem dL_law__1803 : decode cL_law_ 1803 = .ok (.invokevirtual 127, 3) := by decide +kernel
theorem dL_law__1806 : decode cL_law_ 1806 = .ok (.iload 5, 2) := by decide +kernel
theorem dL_law__1808 : decode cL_law_ 1808 = .ok (.if_icmp .eq 5, 3) := by decide +kernel
theorem dL_law__1811 : decode cL_law_ 1811 = .ok (.iconst 0, 1) := by decide +kernel
theorem dL_law__1812 : decode cL_law_ 1812 = .ok (.ireturn, 1) := by decide +kernel
theorem dL_law__1813 : decode cL_law_ 1813 = .ok (.iload 5, 2) := by decide +kernel
theorem dL_law__1815 : decode cL_law_ 1815 = .ok (.ifCond .ne 15, 3) := by decide +kernel
theorem dL_law__1818 : decode cL_law_ 1818 = .ok (.aload_n 3, 1) := by decide +kernel
theorem dL_law__1819 : decode cL_law_ 1819 = .ok (.iconst 0, 1) := by decide +kernel
theorem dL_law__1820 : decode cL_law_ 1820 = .ok (.laload, 1) := by decide +kernel
theorem dL_law__1821 : decode cL_law_ 1821 = .ok (.iload 6, 2) := by decide +kernel
theorem dL_law__1823 : decode cL_law_ 1823 = .ok (.i2l, 1) := by decide +kernel
theorem dL_law__1824 : decode cL_law_ 1824 = .ok (.lcmp, 1) := by decide +kernel
theorem dL_law__1825 : decode cL_law_ 1825 = .ok (.ifCond .eq 5, 3) := by decide +kernel
theorem dL_law__1828 : decode cL_law_ 1828 = .ok (.iconst 0, 1) := by decide +kernel
theorem dL_law__1829 : decode cL_law_ 1829 = .ok (.ireturn, 1) := by decide +kernel
theorem dL_law__1830 : decode cL_law_ 1830 = .ok (.goto 593, 3) := by decide +kernel
theorem dL_law__1833 : decode cL_law_ 1833 = .ok (.aload_n 1, 1) := by decide +kernel
theorem dL_law__1834 : decode cL_law_ 1834 = .ok (.aload_n 0, 1) := by decide +kernel
theorem dL_law__1835 : decode cL_law_ 1835 = .ok (.iload 4, 2) := by decide +kernel
theorem dL_law__1837 : decode cL_law_ 1837 = .ok (.iconst 1, 1) := by decide +kernel
theorem dL_law__1838 : decode cL_law_ 1838 = .ok (.iadd, 1) := by decide +kernel
theorem dL_law__1839 : decode cL_law_ 1839 = .ok (.iaload, 1) := by decide +kernel
theorem dL_law__1840 : decode cL_law_ 1840 = .ok (.aload_n 0, 1) := by decide +kernel
theorem dL_law__1841 : decode cL_law_ 1841 = .ok (.iload 4, 2) := by decide +kernel
theorem dL_law__1843 : decode cL_law_ 1843 = .ok (.iconst 2, 1) := by decide +kernel
theorem dL_law__1844 : decode cL_law_ 1844 = .ok (.iadd, 1) := by decide +kernel
theorem dL_law__1845 : decode cL_law_ 1845 = .ok (.iaload, 1) := by decide +kernel
theorem dL_law__1846 : decode cL_law_ 1846 = .ok (.aload_n 0, 1) := by decide +kernel
theorem dL_law__1847 : decode cL_law_ 1847 = .ok (.iload 4, 2) := by decide +kernel
theorem dL_law__1849 : decode cL_law_ 1849 = .ok (.iconst 3, 1) := by decide +kernel
theorem dL_law__1850 : decode cL_law_ 1850 = .ok (.iadd, 1) := by decide +kernel
theorem dL_law__1851 : decode cL_law_ 1851 = .ok (.iaload, 1) := by decide +kernel
theorem dL_law__1852 : decode cL_law_ 1852 = .ok (.aload_n 3, 1) := by decide +kernel
theorem dL_law__1853 : decode cL_law_ 1853 = .ok (.invokestatic 212, 3) := by decide +kernel
theorem dL_law__1856 : decode cL_law_ 1856 = .ok (.istore 5, 2) := by decide +kernel
theorem dL_law__1858 : decode cL_law_ 1858 = .ok (.aload_n 2, 1) := by decide +kernel
theorem dL_law__1859 : decode cL_law_ 1859 = .ok (.aload_n 0, 1) := by decide +kernel
theorem dL_law__1860 : decode cL_law_ 1860 = .ok (.iload 4, 2) := by decide +kernel
theorem dL_law__1862 : decode cL_law_ 1862 = .ok (.iconst 1, 1) := by decide +kernel
theorem dL_law__1863 : decode cL_law_ 1863 = .ok (.iadd, 1) := by decide +kernel
theorem dL_law__1864 : decode cL_law_ 1864 = .ok (.iaload, 1) := by decide +kernel
theorem dL_law__1865 : decode cL_law_ 1865 = .ok (.aload_n 0, 1) := by decide +kernel
theorem dL_law__1866 : decode cL_law_ 1866 = .ok (.iload 4, 2) := by decide +kernel
theorem dL_law__1868 : decode cL_law_ 1868 = .ok (.iconst 2, 1) := by decide +kernel
theorem dL_law__1869 : decode cL_law_ 1869 = .ok (.iadd, 1) := by decide +kernel
theorem dL_law__1870 : decode cL_law_ 1870 = .ok (.iaload, 1) := by decide +kernel
theorem dL_law__1871 : decode cL_law_ 1871 = .ok (.aload_n 0, 1) := by decide +kernel
theorem dL_law__1872 : decode cL_law_ 1872 = .ok (.iload 4, 2) := by decide +kernel
theorem dL_law__1874 : decode cL_law_ 1874 = .ok (.iconst 3, 1) := by decide +kernel
theorem dL_law__1875 : decode cL_law_ 1875 = .ok (.iadd, 1) := by decide +kernel
theorem dL_law__1876 : decode cL_law_ 1876 = .ok (.iaload, 1) := by decide +kernel
theorem dL_law__1877 : decode cL_law_ 1877 = .ok (.invokevirtual 214, 3) := by decide +kernel
theorem dL_law__1880 : decode cL_law_ 1880 = .ok (.istore 6, 2) := by decide +kernel
theorem dL_law__1882 : decode cL_law_ 1882 = .ok (.aload_n 2, 1) := by decide +kernel
theorem dL_law__1883 : decode cL_law_ 1883 = .ok (.invokevirtual 127, 3) := by decide +kernel
theorem dL_law__1886 : decode cL_law_ 1886 = .ok (.iload 5, 2) := by decide +kernel
theorem dL_law__1888 : decode cL_law_ 1888 = .ok (.if_icmp .eq 5, 3) := by decide +kernel
theorem dL_law__1891 : decode cL_law_ 1891 = .ok (.iconst 0, 1) := by decide +kernel
theorem dL_law__1892 : decode cL_law_ 1892 = .ok (.ireturn, 1) := by decide +kernel
theorem dL_law__1893 : decode cL_law_ 1893 = .ok (.iload 5, 2) := by decide +kernel
theorem dL_law__1895 : decode cL_law_ 1895 = .ok (.ifCond .ne 15, 3) := by decide +kernel
theorem dL_law__1898 : decode cL_law_ 1898 = .ok (.aload_n 3, 1) := by decide +kernel
theorem dL_law__1899 : decode cL_law_ 1899 = .ok (.iconst 0, 1) := by decide +kernel
theorem dL_law__1900 : decode cL_law_ 1900 = .ok (.laload, 1) := by decide +kernel
theorem dL_law__1901 : decode cL_law_ 1901 = .ok (.iload 6, 2) := by decide +kernel
theorem dL_law__1903 : decode cL_law_ 1903 = .ok (.i2l, 1) := by decide +kernel
theorem dL_law__1904 : decode cL_law_ 1904 = .ok (.lcmp, 1) := by decide +kernel
theorem dL_law__1905 : decode cL_law_ 1905 = .ok (.ifCond .eq 5, 3) := by decide +kernel
theorem dL_law__1908 : decode cL_law_ 1908 = .ok (.iconst 0, 1) := by decide +kernel
theorem dL_law__1909 : decode cL_law_ 1909 = .ok (.ireturn, 1) := by decide +kernel
theorem dL_law__1910 : decode cL_law_ 1910 = .ok (.goto 513, 3) := by decide +kernel
theorem dL_law__1913 : decode cL_law_ 1913 = .ok (.aload_n 1, 1) := by decide +kernel
theorem dL_law__1914 : decode cL_law_ 1914 = .ok (.aload_n 0, 1) := by decide +kernel
theorem dL_law__1915 : decode cL_law_ 1915 = .ok (.iload 4, 2) := by decide +kernel
theorem dL_law__1917 : decode cL_law_ 1917 = .ok (.iconst 1, 1) := by decide +kernel
theorem dL_law__1918 : decode cL_law_ 1918 = .ok (.iadd, 1) := by decide +kernel
theorem dL_law__1919 : decode cL_law_ 1919 = .ok (.iaload, 1) := by decide +kernel
theorem dL_law__1920 : decode cL_law_ 1920 = .ok (.aload_n 3, 1) := by decide +kernel
theorem dL_law__1921 : decode cL_law_ 1921 = .ok (.invokestatic 215, 3) := by decide +kernel
theorem dL_law__1924 : decode cL_law_ 1924 = .ok (.istore 5, 2) := by decide +kernel
theorem dL_law__1926 : decode cL_law_ 1926 = .ok (.aload_n 2, 1) := by decide +kernel
theorem dL_law__1927 : decode cL_law_ 1927 = .ok (.aload_n 0, 1) := by decide +kernel
theorem dL_law__1928 : decode cL_law_ 1928 = .ok (.iload 4, 2) := by decide +kernel
theorem dL_law__1930 : decode cL_law_ 1930 = .ok (.iconst 1, 1) := by decide +kernel
theorem dL_law__1931 : decode cL_law_ 1931 = .ok (.iadd, 1) := by decide +kernel
theorem dL_law__1932 : decode cL_law_ 1932 = .ok (.iaload, 1) := by decide +kernel
theorem dL_law__1933 : decode cL_law_ 1933 = .ok (.invokevirtual 217, 3) := by decide +kernel
theorem dL_law__1936 : decode cL_law_ 1936 = .ok (.istore 6, 2) := by decide +kernel
theorem dL_law__1938 : decode cL_law_ 1938 = .ok (.aload_n 2, 1) := by decide +kernel
theorem dL_law__1939 : decode cL_law_ 1939 = .ok (.invokevirtual 127, 3) := by decide +kernel
theorem dL_law__1942 : decode cL_law_ 1942 = .ok (.iload 5, 2) := by decide +kernel
theorem dL_law__1944 : decode cL_law_ 1944 = .ok (.if_icmp .eq 5, 3) := by decide +kernel
theorem dL_law__1947 : decode cL_law_ 1947 = .ok (.iconst 0, 1) := by decide +kernel
theorem dL_law__1948 : decode cL_law_ 1948 = .ok (.ireturn, 1) := by decide +kernel
theorem dL_law__1949 : decode cL_law_ 1949 = .ok (.iload 5, 2) := by decide +kernel
theorem dL_law__1951 : decode cL_law_ 1951 = .ok (.ifCond .ne 15, 3) := by decide +kernel
theorem dL_law__1954 : decode cL_law_ 1954 = .ok (.aload_n 3, 1) := by decide +kernel
theorem dL_law__1955 : decode cL_law_ 1955 = .ok (.iconst 0, 1) := by decide +kernel
theorem dL_law__1956 : decode cL_law_ 1956 = .ok (.laload, 1) := by decide +kernel
theorem dL_law__1957 : decode cL_law_ 1957 = .ok (.iload 6, 2) := by decide +kernel
theorem dL_law__1959 : decode cL_law_ 1959 = .ok (.i2l, 1) := by decide +kernel
theorem dL_law__1960 : decode cL_law_ 1960 = .ok (.lcmp, 1) := by decide +kernel
theorem dL_law__1961 : decode cL_law_ 1961 = .ok (.ifCond .eq 5, 3) := by decide +kernel
theorem dL_law__1964 : decode cL_law_ 1964 = .ok (.iconst 0, 1) := by decide +kernel
theorem dL_law__1965 : decode cL_law_ 1965 = .ok (.ireturn, 1) := by decide +kernel
theorem dL_law__1966 : decode cL_law_ 1966 = .ok (.goto 457, 3) := by decide +kernel
theorem dL_law__1969 : decode cL_law_ 1969 = .ok (.aload_n 1, 1) := by decide +kernel
theorem dL_law__1970 : decode cL_law_ 1970 = .ok (.aload_n 0, 1) := by decide +kernel
theorem dL_law__1971 : decode cL_law_ 1971 = .ok (.iload 4, 2) := by decide +kernel
theorem dL_law__1973 : decode cL_law_ 1973 = .ok (.iconst 1, 1) := by decide +kernel
theorem dL_law__1974 : decode cL_law_ 1974 = .ok (.iadd, 1) := by decide +kernel
theorem dL_law__1975 : decode cL_law_ 1975 = .ok (.iaload, 1) := by decide +kernel
theorem dL_law__1976 : decode cL_law_ 1976 = .ok (.aload_n 3, 1) := by decide +kernel
theorem dL_law__1977 : decode cL_law_ 1977 = .ok (.invokestatic 218, 3) := by decide +kernel
theorem dL_law__1980 : decode cL_law_ 1980 = .ok (.istore 5, 2) := by decide +kernel
theorem dL_law__1982 : decode cL_law_ 1982 = .ok (.aload_n 2, 1) := by decide +kernel
theorem dL_law__1983 : decode cL_law_ 1983 = .ok (.aload_n 0, 1) := by decide +kernel
theorem dL_law__1984 : decode cL_law_ 1984 = .ok (.iload 4, 2) := by decide +kernel
theorem dL_law__1986 : decode cL_law_ 1986 = .ok (.iconst 1, 1) := by decide +kernel
theorem dL_law__1987 : decode cL_law_ 1987 = .ok (.iadd, 1) := by decide +kernel
theorem dL_law__1988 : decode cL_law_ 1988 = .ok (.iaload, 1) := by decide +kernel
theorem dL_law__1989 : decode cL_law_ 1989 = .ok (.invokevirtual 220, 3) := by decide +kernel
theorem dL_law__1992 : decode cL_law_ 1992 = .ok (.istore 6, 2) := by decide +kernel
theorem dL_law__1994 : decode cL_law_ 1994 = .ok (.aload_n 2, 1) := by decide +kernel
theorem dL_law__1995 : decode cL_law_ 1995 = .ok (.invokevirtual 127, 3) := by decide +kernel
theorem dL_law__1998 : decode cL_law_ 1998 = .ok (.iload 5, 2) := by decide +kernel
theorem dL_law__2000 : decode cL_law_ 2000 = .ok (.if_icmp .eq 5, 3) := by decide +kernel
theorem dL_law__2003 : decode cL_law_ 2003 = .ok (.iconst 0, 1) := by decide +kernel
theorem dL_law__2004 : decode cL_law_ 2004 = .ok (.ireturn, 1) := by decide +kernel
theorem dL_law__2005 : decode cL_law_ 2005 = .ok (.iload 5, 2) := by decide +kernel
theorem dL_law__2007 : decode cL_law_ 2007 = .ok (.ifCond .ne 15, 3) := by decide +kernel
theorem dL_law__2010 : decode cL_law_ 2010 = .ok (.aload_n 3, 1) := by decide +kernel
theorem dL_law__2011 : decode cL_law_ 2011 = .ok (.iconst 0, 1) := by decide +kernel
theorem dL_law__2012 : decode cL_law_ 2012 = .ok (.laload, 1) := by decide +kernel
theorem dL_law__2013 : decode cL_law_ 2013 = .ok (.iload 6, 2) := by decide +kernel
theorem dL_law__2015 : decode cL_law_ 2015 = .ok (.i2l, 1) := by decide +kernel
theorem dL_law__2016 : decode cL_law_ 2016 = .ok (.lcmp, 1) := by decide +kernel
theorem dL_law__2017 : decode cL_law_ 2017 = .ok (.ifCond .eq 5, 3) := by decide +kernel
theorem dL_law__2020 : decode cL_law_ 2020 = .ok (.iconst 0, 1) := by decide +kernel
theorem dL_law__2021 : decode cL_law_ 2021 = .ok (.ireturn, 1) := by decide +kernel
theorem dL_law__2022 : decode cL_law_ 2022 = .ok (.goto 401, 3) := by decide +kernel
theorem dL_law__2025 : decode cL_law_ 2025 = .ok (.aload_n 1, 1) := by decide +kernel
theorem dL_law__2026 : decode cL_law_ 2026 = .ok (.aload_n 0, 1) := by decide +kernel
theorem dL_law__2027 : decode cL_law_ 2027 = .ok (.iload 4, 2) := by decide +kernel
theorem dL_law__2029 : decode cL_law_ 2029 = .ok (.iconst 1, 1) := by decide +kernel
theorem dL_law__2030 : decode cL_law_ 2030 = .ok (.iadd, 1) := by decide +kernel
theorem dL_law__2031 : decode cL_law_ 2031 = .ok (.iaload, 1) := by decide +kernel
theorem dL_law__2032 : decode cL_law_ 2032 = .ok (.aload_n 3, 1) := by decide +kernel
theorem dL_law__2033 : decode cL_law_ 2033 = .ok (.invokestatic 221, 3) := by decide +kernel
theorem dL_law__2036 : decode cL_law_ 2036 = .ok (.istore 5, 2) := by decide +kernel
theorem dL_law__2038 : decode cL_law_ 2038 = .ok (.aload_n 2, 1) := by decide +kernel
theorem dL_law__2039 : decode cL_law_ 2039 = .ok (.aload_n 0, 1) := by decide +kernel
theorem dL_law__2040 : decode cL_law_ 2040 = .ok (.iload 4, 2) := by decide +kernel
theorem dL_law__2042 : decode cL_law_ 2042 = .ok (.iconst 1, 1) := by decide +kernel
theorem dL_law__2043 : decode cL_law_ 2043 = .ok (.iadd, 1) := by decide +kernel
theorem dL_law__2044 : decode cL_law_ 2044 = .ok (.iaload, 1) := by decide +kernel
theorem dL_law__2045 : decode cL_law_ 2045 = .ok (.invokevirtual 223, 3) := by decide +kernel
theorem dL_law__2048 : decode cL_law_ 2048 = .ok (.istore 6, 2) := by decide +kernel
theorem dL_law__2050 : decode cL_law_ 2050 = .ok (.aload_n 2, 1) := by decide +kernel
theorem dL_law__2051 : decode cL_law_ 2051 = .ok (.invokevirtual 127, 3) := by decide +kernel
theorem dL_law__2054 : decode cL_law_ 2054 = .ok (.iload 5, 2) := by decide +kernel
theorem dL_law__2056 : decode cL_law_ 2056 = .ok (.if_icmp .eq 5, 3) := by decide +kernel
theorem dL_law__2059 : decode cL_law_ 2059 = .ok (.iconst 0, 1) := by decide +kernel
theorem dL_law__2060 : decode cL_law_ 2060 = .ok (.ireturn, 1) := by decide +kernel
theorem dL_law__2061 : decode cL_law_ 2061 = .ok (.iload 5, 2) := by decide +kernel
theorem dL_law__2063 : decode cL_law_ 2063 = .ok (.ifCond .ne 15, 3) := by decide +kernel
theorem dL_law__2066 : decode cL_law_ 2066 = .ok (.aload_n 3, 1) := by decide +kernel
theorem dL_law__2067 : decode cL_law_ 2067 = .ok (.iconst 0, 1) := by decide +kernel
theorem dL_law__2068 : decode cL_law_ 2068 = .ok (.laload, 1) := by decide +kernel
theorem dL_law__2069 : decode cL_law_ 2069 = .ok (.iload 6, 2) := by decide +kernel
theorem dL_law__2071 : decode cL_law_ 2071 = .ok (.i2l, 1) := by decide +kernel
theorem dL_law__2072 : decode cL_law_ 2072 = .ok (.lcmp, 1) := by decide +kernel
theorem dL_law__2073 : decode cL_law_ 2073 = .ok (.ifCond .eq 5, 3) := by decide +kernel
theorem dL_law__2076 : decode cL_law_ 2076 = .ok (.iconst 0, 1) := by decide +kernel
theorem dL_law__2077 : decode cL_law_ 2077 = .ok (.ireturn, 1) := by decide +kernel
theorem dL_law__2078 : decode cL_law_ 2078 = .ok (.goto 345, 3) := by decide +kernel
theorem dL_law__2081 : decode cL_law_ 2081 = .ok (.aload_n 1, 1) := by decide +kernel
theorem dL_law__2082 : decode cL_law_ 2082 = .ok (.aload_n 0, 1) := by decide +kernel
theorem dL_law__2083 : decode cL_law_ 2083 = .ok (.iload 4, 2) := by decide +kernel
theorem dL_law__2085 : decode cL_law_ 2085 = .ok (.iconst 1, 1) := by decide +kernel
theorem dL_law__2086 : decode cL_law_ 2086 = .ok (.iadd, 1) := by decide +kernel
theorem dL_law__2087 : decode cL_law_ 2087 = .ok (.iaload, 1) := by decide +kernel
theorem dL_law__2088 : decode cL_law_ 2088 = .ok (.aload_n 3, 1) := by decide +kernel
theorem dL_law__2089 : decode cL_law_ 2089 = .ok (.invokestatic 224, 3) := by decide +kernel
theorem dL_law__2092 : decode cL_law_ 2092 = .ok (.istore 5, 2) := by decide +kernel
theorem dL_law__2094 : decode cL_law_ 2094 = .ok (.aload_n 2, 1) := by decide +kernel
theorem dL_law__2095 : decode cL_law_ 2095 = .ok (.aload_n 0, 1) := by decide +kernel
theorem dL_law__2096 : decode cL_law_ 2096 = .ok (.iload 4, 2) := by decide +kernel
theorem dL_law__2098 : decode cL_law_ 2098 = .ok (.iconst 1, 1) := by decide +kernel
theorem dL_law__2099 : decode cL_law_ 2099 = .ok (.iadd, 1) := by decide +kernel
theorem dL_law__2100 : decode cL_law_ 2100 = .ok (.iaload, 1) := by decide +kernel
theorem dL_law__2101 : decode cL_law_ 2101 = .ok (.invokevirtual 226, 3) := by decide +kernel
theorem dL_law__2104 : decode cL_law_ 2104 = .ok (.istore 6, 2) := by decide +kernel
theorem dL_law__2106 : decode cL_law_ 2106 = .ok (.aload_n 2, 1) := by decide +kernel
theorem dL_law__2107 : decode cL_law_ 2107 = .ok (.invokevirtual 127, 3) := by decide +kernel
theorem dL_law__2110 : decode cL_law_ 2110 = .ok (.iload 5, 2) := by decide +kernel
theorem dL_law__2112 : decode cL_law_ 2112 = .ok (.if_icmp .eq 5, 3) := by decide +kernel
theorem dL_law__2115 : decode cL_law_ 2115 = .ok (.iconst 0, 1) := by decide +kernel
theorem dL_law__2116 : decode cL_law_ 2116 = .ok (.ireturn, 1) := by decide +kernel
theorem dL_law__2117 : decode cL_law_ 2117 = .ok (.iload 5, 2) := by decide +kernel
theorem dL_law__2119 : decode cL_law_ 2119 = .ok (.ifCond .ne 15, 3) := by decide +kernel
theorem dL_law__2122 : decode cL_law_ 2122 = .ok (.aload_n 3, 1) := by decide +kernel
theorem dL_law__2123 : decode cL_law_ 2123 = .ok (.iconst 0, 1) := by decide +kernel
theorem dL_law__2124 : decode cL_law_ 2124 = .ok (.laload, 1) := by decide +kernel
theorem dL_law__2125 : decode cL_law_ 2125 = .ok (.iload 6, 2) := by decide +kernel
theorem dL_law__2127 : decode cL_law_ 2127 = .ok (.i2l, 1) := by decide +kernel
theorem dL_law__2128 : decode cL_law_ 2128 = .ok (.lcmp, 1) := by decide +kernel
theorem dL_law__2129 : decode cL_law_ 2129 = .ok (.ifCond .eq 5, 3) := by decide +kernel
theorem dL_law__2132 : decode cL_law_ 2132 = .ok (.iconst 0, 1) := by decide +kernel
theorem dL_law__2133 : decode cL_law_ 2133 = .ok (.ireturn, 1) := by decide +kernel
theorem dL_law__2134 : decode cL_law_ 2134 = .ok (.goto 289, 3) := by decide +kernel
theorem dL_law__2137 : decode cL_law_ 2137 = .ok (.aload_n 1, 1) := by decide +kernel
theorem dL_law__2138 : decode cL_law_ 2138 = .ok (.aload_n 0, 1) := by decide +kernel
theorem dL_law__2139 : decode cL_law_ 2139 = .ok (.iload 4, 2) := by decide +kernel
theorem dL_law__2141 : decode cL_law_ 2141 = .ok (.iconst 1, 1) := by decide +kernel
theorem dL_law__2142 : decode cL_law_ 2142 = .ok (.iadd, 1) := by decide +kernel
theorem dL_law__2143 : decode cL_law_ 2143 = .ok (.iaload, 1) := by decide +kernel
theorem dL_law__2144 : decode cL_law_ 2144 = .ok (.aload_n 0, 1) := by decide +kernel
theorem dL_law__2145 : decode cL_law_ 2145 = .ok (.iload 4, 2) := by decide +kernel
theorem dL_law__2147 : decode cL_law_ 2147 = .ok (.iconst 2, 1) := by decide +kernel
theorem dL_law__2148 : decode cL_law_ 2148 = .ok (.iadd, 1) := by decide +kernel
theorem dL_law__2149 : decode cL_law_ 2149 = .ok (.iaload, 1) := by decide +kernel
theorem dL_law__2150 : decode cL_law_ 2150 = .ok (.aload_n 0, 1) := by decide +kernel
theorem dL_law__2151 : decode cL_law_ 2151 = .ok (.iload 4, 2) := by decide +kernel
theorem dL_law__2153 : decode cL_law_ 2153 = .ok (.iconst 3, 1) := by decide +kernel
theorem dL_law__2154 : decode cL_law_ 2154 = .ok (.iadd, 1) := by decide +kernel
theorem dL_law__2155 : decode cL_law_ 2155 = .ok (.iaload, 1) := by decide +kernel
theorem dL_law__2156 : decode cL_law_ 2156 = .ok (.aload_n 0, 1) := by decide +kernel
theorem dL_law__2157 : decode cL_law_ 2157 = .ok (.iload 4, 2) := by decide +kernel
theorem dL_law__2159 : decode cL_law_ 2159 = .ok (.iconst 4, 1) := by decide +kernel
theorem dL_law__2160 : decode cL_law_ 2160 = .ok (.iadd, 1) := by decide +kernel
theorem dL_law__2161 : decode cL_law_ 2161 = .ok (.iaload, 1) := by decide +kernel
theorem dL_law__2162 : decode cL_law_ 2162 = .ok (.aload_n 3, 1) := by decide +kernel
theorem dL_law__2163 : decode cL_law_ 2163 = .ok (.invokestatic 227, 3) := by decide +kernel
theorem dL_law__2166 : decode cL_law_ 2166 = .ok (.istore 5, 2) := by decide +kernel
theorem dL_law__2168 : decode cL_law_ 2168 = .ok (.aload_n 2, 1) := by decide +kernel
theorem dL_law__2169 : decode cL_law_ 2169 = .ok (.aload_n 0, 1) := by decide +kernel
theorem dL_law__2170 : decode cL_law_ 2170 = .ok (.iload 4, 2) := by decide +kernel
theorem dL_law__2172 : decode cL_law_ 2172 = .ok (.iconst 1, 1) := by decide +kernel
theorem dL_law__2173 : decode cL_law_ 2173 = .ok (.iadd, 1) := by decide +kernel
theorem dL_law__2174 : decode cL_law_ 2174 = .ok (.iaload, 1) := by decide +kernel
theorem dL_law__2175 : decode cL_law_ 2175 = .ok (.aload_n 0, 1) := by decide +kernel
theorem dL_law__2176 : decode cL_law_ 2176 = .ok (.iload 4, 2) := by decide +kernel
theorem dL_law__2178 : decode cL_law_ 2178 = .ok (.iconst 2, 1) := by decide +kernel
theorem dL_law__2179 : decode cL_law_ 2179 = .ok (.iadd, 1) := by decide +kernel
theorem dL_law__2180 : decode cL_law_ 2180 = .ok (.iaload, 1) := by decide +kernel
theorem dL_law__2181 : decode cL_law_ 2181 = .ok (.aload_n 0, 1) := by decide +kernel
theorem dL_law__2182 : decode cL_law_ 2182 = .ok (.iload 4, 2) := by decide +kernel
theorem dL_law__2184 : decode cL_law_ 2184 = .ok (.iconst 3, 1) := by decide +kernel
theorem dL_law__2185 : decode cL_law_ 2185 = .ok (.iadd, 1) := by decide +kernel
theorem dL_law__2186 : decode cL_law_ 2186 = .ok (.iaload, 1) := by decide +kernel
theorem dL_law__2187 : decode cL_law_ 2187 = .ok (.aload_n 0, 1) := by decide +kernel
theorem dL_law__2188 : decode cL_law_ 2188 = .ok (.iload 4, 2) := by decide +kernel
theorem dL_law__2190 : decode cL_law_ 2190 = .ok (.iconst 4, 1) := by decide +kernel
theorem dL_law__2191 : decode cL_law_ 2191 = .ok (.iadd, 1) := by decide +kernel
theorem dL_law__2192 : decode cL_law_ 2192 = .ok (.iaload, 1) := by decide +kernel
theorem dL_law__2193 : decode cL_law_ 2193 = .ok (.invokevirtual 230, 3) := by decide +kernel
theorem dL_law__2196 : decode cL_law_ 2196 = .ok (.istore 6, 2) := by decide +kernel
theorem dL_law__2198 : decode cL_law_ 2198 = .ok (.aload_n 2, 1) := by decide +kernel
theorem dL_law__2199 : decode cL_law_ 2199 = .ok (.invokevirtual 127, 3) := by decide +kernel
theorem dL_law__2202 : decode cL_law_ 2202 = .ok (.iload 5, 2) := by decide +kernel
theorem dL_law__2204 : decode cL_law_ 2204 = .ok (.if_icmp .eq 5, 3) := by decide +kernel
theorem dL_law__2207 : decode cL_law_ 2207 = .ok (.iconst 0, 1) := by decide +kernel
theorem dL_law__2208 : decode cL_law_ 2208 = .ok (.ireturn, 1) := by decide +kernel
theorem dL_law__2209 : decode cL_law_ 2209 = .ok (.iload 5, 2) := by decide +kernel
theorem dL_law__2211 : decode cL_law_ 2211 = .ok (.ifCond .ne 15, 3) := by decide +kernel
theorem dL_law__2214 : decode cL_law_ 2214 = .ok (.aload_n 3, 1) := by decide +kernel
theorem dL_law__2215 : decode cL_law_ 2215 = .ok (.iconst 0, 1) := by decide +kernel
theorem dL_law__2216 : decode cL_law_ 2216 = .ok (.laload, 1) := by decide +kernel
theorem dL_law__2217 : decode cL_law_ 2217 = .ok (.iload 6, 2) := by decide +kernel
theorem dL_law__2219 : decode cL_law_ 2219 = .ok (.i2l, 1) := by decide +kernel
theorem dL_law__2220 : decode cL_law_ 2220 = .ok (.lcmp, 1) := by decide +kernel
theorem dL_law__2221 : decode cL_law_ 2221 = .ok (.ifCond .eq 5, 3) := by decide +kernel
theorem dL_law__2224 : decode cL_law_ 2224 = .ok (.iconst 0, 1) := by decide +kernel
theorem dL_law__2225 : decode cL_law_ 2225 = .ok (.ireturn, 1) := by decide +kernel
theorem dL_law__2226 : decode cL_law_ 2226 = .ok (.goto 197, 3) := by decide +kernel
theorem dL_law__2229 : decode cL_law_ 2229 = .ok (.aload_n 1, 1) := by decide +kernel
theorem dL_law__2230 : decode cL_law_ 2230 = .ok (.aload_n 0, 1) := by decide +kernel
theorem dL_law__2231 : decode cL_law_ 2231 = .ok (.iload 4, 2) := by decide +kernel
theorem dL_law__2233 : decode cL_law_ 2233 = .ok (.iconst 1, 1) := by decide +kernel
theorem dL_law__2234 : decode cL_law_ 2234 = .ok (.iadd, 1) := by decide +kernel
theorem dL_law__2235 : decode cL_law_ 2235 = .ok (.iaload, 1) := by decide +kernel
theorem dL_law__2236 : decode cL_law_ 2236 = .ok (.aload_n 0, 1) := by decide +kernel
theorem dL_law__2237 : decode cL_law_ 2237 = .ok (.iload 4, 2) := by decide +kernel
theorem dL_law__2239 : decode cL_law_ 2239 = .ok (.iconst 2, 1) := by decide +kernel
theorem dL_law__2240 : decode cL_law_ 2240 = .ok (.iadd, 1) := by decide +kernel
theorem dL_law__2241 : decode cL_law_ 2241 = .ok (.iaload, 1) := by decide +kernel
theorem dL_law__2242 : decode cL_law_ 2242 = .ok (.aload_n 0, 1) := by decide +kernel
theorem dL_law__2243 : decode cL_law_ 2243 = .ok (.iload 4, 2) := by decide +kernel
theorem dL_law__2245 : decode cL_law_ 2245 = .ok (.iconst 3, 1) := by decide +kernel
theorem dL_law__2246 : decode cL_law_ 2246 = .ok (.iadd, 1) := by decide +kernel
theorem dL_law__2247 : decode cL_law_ 2247 = .ok (.iaload, 1) := by decide +kernel
theorem dL_law__2248 : decode cL_law_ 2248 = .ok (.aload_n 0, 1) := by decide +kernel
theorem dL_law__2249 : decode cL_law_ 2249 = .ok (.iload 4, 2) := by decide +kernel
theorem dL_law__2251 : decode cL_law_ 2251 = .ok (.iconst 4, 1) := by decide +kernel
theorem dL_law__2252 : decode cL_law_ 2252 = .ok (.iadd, 1) := by decide +kernel
theorem dL_law__2253 : decode cL_law_ 2253 = .ok (.iaload, 1) := by decide +kernel
theorem dL_law__2254 : decode cL_law_ 2254 = .ok (.aload_n 0, 1) := by decide +kernel
theorem dL_law__2255 : decode cL_law_ 2255 = .ok (.iload 4, 2) := by decide +kernel
theorem dL_law__2257 : decode cL_law_ 2257 = .ok (.iconst 5, 1) := by decide +kernel
theorem dL_law__2258 : decode cL_law_ 2258 = .ok (.iadd, 1) := by decide +kernel
theorem dL_law__2259 : decode cL_law_ 2259 = .ok (.iaload, 1) := by decide +kernel
theorem dL_law__2260 : decode cL_law_ 2260 = .ok (.aload_n 0, 1) := by decide +kernel
theorem dL_law__2261 : decode cL_law_ 2261 = .ok (.iload 4, 2) := by decide +kernel
theorem dL_law__2263 : decode cL_law_ 2263 = .ok (.bipush 6, 2) := by decide +kernel
theorem dL_law__2265 : decode cL_law_ 2265 = .ok (.iadd, 1) := by decide +kernel
theorem dL_law__2266 : decode cL_law_ 2266 = .ok (.iaload, 1) := by decide +kernel
theorem dL_law__2267 : decode cL_law_ 2267 = .ok (.aload_n 3, 1) := by decide +kernel
theorem dL_law__2268 : decode cL_law_ 2268 = .ok (.invokestatic 231, 3) := by decide +kernel
theorem dL_law__2271 : decode cL_law_ 2271 = .ok (.istore 5, 2) := by decide +kernel
theorem dL_law__2273 : decode cL_law_ 2273 = .ok (.aload_n 2, 1) := by decide +kernel
theorem dL_law__2274 : decode cL_law_ 2274 = .ok (.aload_n 0, 1) := by decide +kernel
theorem dL_law__2275 : decode cL_law_ 2275 = .ok (.iload 4, 2) := by decide +kernel
theorem dL_law__2277 : decode cL_law_ 2277 = .ok (.iconst 1, 1) := by decide +kernel
theorem dL_law__2278 : decode cL_law_ 2278 = .ok (.iadd, 1) := by decide +kernel
theorem dL_law__2279 : decode cL_law_ 2279 = .ok (.iaload, 1) := by decide +kernel
theorem dL_law__2280 : decode cL_law_ 2280 = .ok (.aload_n 0, 1) := by decide +kernel
theorem dL_law__2281 : decode cL_law_ 2281 = .ok (.iload 4, 2) := by decide +kernel
theorem dL_law__2283 : decode cL_law_ 2283 = .ok (.iconst 2, 1) := by decide +kernel
theorem dL_law__2284 : decode cL_law_ 2284 = .ok (.iadd, 1) := by decide +kernel
theorem dL_law__2285 : decode cL_law_ 2285 = .ok (.iaload, 1) := by decide +kernel
theorem dL_law__2286 : decode cL_law_ 2286 = .ok (.aload_n 0, 1) := by decide +kernel
theorem dL_law__2287 : decode cL_law_ 2287 = .ok (.iload 4, 2) := by decide +kernel
theorem dL_law__2289 : decode cL_law_ 2289 = .ok (.iconst 3, 1) := by decide +kernel
theorem dL_law__2290 : decode cL_law_ 2290 = .ok (.iadd, 1) := by decide +kernel
theorem dL_law__2291 : decode cL_law_ 2291 = .ok (.iaload, 1) := by decide +kernel
theorem dL_law__2292 : decode cL_law_ 2292 = .ok (.aload_n 0, 1) := by decide +kernel
theorem dL_law__2293 : decode cL_law_ 2293 = .ok (.iload 4, 2) := by decide +kernel
theorem dL_law__2295 : decode cL_law_ 2295 = .ok (.iconst 4, 1) := by decide +kernel
theorem dL_law__2296 : decode cL_law_ 2296 = .ok (.iadd, 1) := by decide +kernel
theorem dL_law__2297 : decode cL_law_ 2297 = .ok (.iaload, 1) := by decide +kernel
theorem dL_law__2298 : decode cL_law_ 2298 = .ok (.aload_n 0, 1) := by decide +kernel
theorem dL_law__2299 : decode cL_law_ 2299 = .ok (.iload 4, 2) := by decide +kernel
theorem dL_law__2301 : decode cL_law_ 2301 = .ok (.iconst 5, 1) := by decide +kernel
theorem dL_law__2302 : decode cL_law_ 2302 = .ok (.iadd, 1) := by decide +kernel
theorem dL_law__2303 : decode cL_law_ 2303 = .ok (.iaload, 1) := by decide +kernel
theorem dL_law__2304 : decode cL_law_ 2304 = .ok (.aload_n 0, 1) := by decide +kernel
theorem dL_law__2305 : decode cL_law_ 2305 = .ok (.iload 4, 2) := by decide +kernel
theorem dL_law__2307 : decode cL_law_ 2307 = .ok (.bipush 6, 2) := by decide +kernel
theorem dL_law__2309 : decode cL_law_ 2309 = .ok (.iadd, 1) := by decide +kernel
theorem dL_law__2310 : decode cL_law_ 2310 = .ok (.iaload, 1) := by decide +kernel
theorem dL_law__2311 : decode cL_law_ 2311 = .ok (.invokevirtual 234, 3) := by decide +kernel
theorem dL_law__2314 : decode cL_law_ 2314 = .ok (.istore 6, 2) := by decide +kernel
theorem dL_law__2316 : decode cL_law_ 2316 = .ok (.aload_n 2, 1) := by decide +kernel
theorem dL_law__2317 : decode cL_law_ 2317 = .ok (.invokevirtual 127, 3) := by decide +kernel
theorem dL_law__2320 : decode cL_law_ 2320 = .ok (.iload 5, 2) := by decide +kernel
theorem dL_law__2322 : decode cL_law_ 2322 = .ok (.if_icmp .eq 5, 3) := by decide +kernel
theorem dL_law__2325 : decode cL_law_ 2325 = .ok (.iconst 0, 1) := by decide +kernel
theorem dL_law__2326 : decode cL_law_ 2326 = .ok (.ireturn, 1) := by decide +kernel
theorem dL_law__2327 : decode cL_law_ 2327 = .ok (.iload 5, 2) := by decide +kernel
theorem dL_law__2329 : decode cL_law_ 2329 = .ok (.ifCond .ne 15, 3) := by decide +kernel
theorem dL_law__2332 : decode cL_law_ 2332 = .ok (.aload_n 3, 1) := by decide +kernel
theorem dL_law__2333 : decode cL_law_ 2333 = .ok (.iconst 0, 1) := by decide +kernel
theorem dL_law__2334 : decode cL_law_ 2334 = .ok (.laload, 1) := by decide +kernel
theorem dL_law__2335 : decode cL_law_ 2335 = .ok (.iload 6, 2) := by decide +kernel
theorem dL_law__2337 : decode cL_law_ 2337 = .ok (.i2l, 1) := by decide +kernel
theorem dL_law__2338 : decode cL_law_ 2338 = .ok (.lcmp, 1) := by decide +kernel
theorem dL_law__2339 : decode cL_law_ 2339 = .ok (.ifCond .eq 5, 3) := by decide +kernel
theorem dL_law__2342 : decode cL_law_ 2342 = .ok (.iconst 0, 1) := by decide +kernel
theorem dL_law__2343 : decode cL_law_ 2343 = .ok (.ireturn, 1) := by decide +kernel
theorem dL_law__2344 : decode cL_law_ 2344 = .ok (.goto 79, 3) := by decide +kernel
theorem dL_law__2347 : decode cL_law_ 2347 = .ok (.aload_n 1, 1) := by decide +kernel
theorem dL_law__2348 : decode cL_law_ 2348 = .ok (.invokevirtual 235, 3) := by decide +kernel
theorem dL_law__2351 : decode cL_law_ 2351 = .ok (.aload_n 2, 1) := by decide +kernel
theorem dL_law__2352 : decode cL_law_ 2352 = .ok (.invokevirtual 238, 3) := by decide +kernel
theorem dL_law__2355 : decode cL_law_ 2355 = .ok (.if_icmp .eq 68, 3) := by decide +kernel
theorem dL_law__2358 : decode cL_law_ 2358 = .ok (.iconst 0, 1) := by decide +kernel
theorem dL_law__2359 : decode cL_law_ 2359 = .ok (.ireturn, 1) := by decide +kernel
theorem dL_law__2360 : decode cL_law_ 2360 = .ok (.aload_n 1, 1) := by decide +kernel
theorem dL_law__2361 : decode cL_law_ 2361 = .ok (.invokevirtual 239, 3) := by decide +kernel
theorem dL_law__2364 : decode cL_law_ 2364 = .ok (.aload_n 2, 1) := by decide +kernel
theorem dL_law__2365 : decode cL_law_ 2365 = .ok (.invokevirtual 242, 3) := by decide +kernel
theorem dL_law__2368 : decode cL_law_ 2368 = .ok (.if_icmp .eq 55, 3) := by decide +kernel
theorem dL_law__2371 : decode cL_law_ 2371 = .ok (.iconst 0, 1) := by decide +kernel
theorem dL_law__2372 : decode cL_law_ 2372 = .ok (.ireturn, 1) := by decide +kernel
theorem dL_law__2373 : decode cL_law_ 2373 = .ok (.aload_n 1, 1) := by decide +kernel
theorem dL_law__2374 : decode cL_law_ 2374 = .ok (.aload_n 0, 1) := by decide +kernel
theorem dL_law__2375 : decode cL_law_ 2375 = .ok (.iload 4, 2) := by decide +kernel
theorem dL_law__2377 : decode cL_law_ 2377 = .ok (.iconst 1, 1) := by decide +kernel
theorem dL_law__2378 : decode cL_law_ 2378 = .ok (.iadd, 1) := by decide +kernel
theorem dL_law__2379 : decode cL_law_ 2379 = .ok (.iaload, 1) := by decide +kernel
theorem dL_law__2380 : decode cL_law_ 2380 = .ok (.invokevirtual 243, 3) := by decide +kernel
theorem dL_law__2383 : decode cL_law_ 2383 = .ok (.aload_n 2, 1) := by decide +kernel
theorem dL_law__2384 : decode cL_law_ 2384 = .ok (.aload_n 0, 1) := by decide +kernel
theorem dL_law__2385 : decode cL_law_ 2385 = .ok (.iload 4, 2) := by decide +kernel
theorem dL_law__2387 : decode cL_law_ 2387 = .ok (.iconst 1, 1) := by decide +kernel
theorem dL_law__2388 : decode cL_law_ 2388 = .ok (.iadd, 1) := by decide +kernel
theorem dL_law__2389 : decode cL_law_ 2389 = .ok (.iaload, 1) := by decide +kernel
theorem dL_law__2390 : decode cL_law_ 2390 = .ok (.invokevirtual 246, 3) := by decide +kernel
theorem dL_law__2393 : decode cL_law_ 2393 = .ok (.if_icmp .eq 30, 3) := by decide +kernel
theorem dL_law__2396 : decode cL_law_ 2396 = .ok (.iconst 0, 1) := by decide +kernel
theorem dL_law__2397 : decode cL_law_ 2397 = .ok (.ireturn, 1) := by decide +kernel
theorem dL_law__2398 : decode cL_law_ 2398 = .ok (.aload_n 1, 1) := by decide +kernel
theorem dL_law__2399 : decode cL_law_ 2399 = .ok (.aload_n 0, 1) := by decide +kernel
theorem dL_law__2400 : decode cL_law_ 2400 = .ok (.iload 4, 2) := by decide +kernel
theorem dL_law__2402 : decode cL_law_ 2402 = .ok (.iconst 1, 1) := by decide +kernel
theorem dL_law__2403 : decode cL_law_ 2403 = .ok (.iadd, 1) := by decide +kernel
theorem dL_law__2404 : decode cL_law_ 2404 = .ok (.iaload, 1) := by decide +kernel
theorem dL_law__2405 : decode cL_law_ 2405 = .ok (.invokevirtual 247, 3) := by decide +kernel
theorem dL_law__2408 : decode cL_law_ 2408 = .ok (.aload_n 2, 1) := by decide +kernel
theorem dL_law__2409 : decode cL_law_ 2409 = .ok (.aload_n 0, 1) := by decide +kernel
theorem dL_law__2410 : decode cL_law_ 2410 = .ok (.iload 4, 2) := by decide +kernel
theorem dL_law__2412 : decode cL_law_ 2412 = .ok (.iconst 1, 1) := by decide +kernel
theorem dL_law__2413 : decode cL_law_ 2413 = .ok (.iadd, 1) := by decide +kernel
theorem dL_law__2414 : decode cL_law_ 2414 = .ok (.iaload, 1) := by decide +kernel
theorem dL_law__2415 : decode cL_law_ 2415 = .ok (.invokevirtual 250, 3) := by decide +kernel
theorem dL_law__2418 : decode cL_law_ 2418 = .ok (.if_icmp .eq 5, 3) := by decide +kernel
theorem dL_law__2421 : decode cL_law_ 2421 = .ok (.iconst 0, 1) := by decide +kernel
theorem dL_law__2422 : decode cL_law_ 2422 = .ok (.ireturn, 1) := by decide +kernel
theorem dL_law__2423 : decode cL_law_ 2423 = .ok (.iinc 4 10, 3) := by decide +kernel
theorem dL_law__2426 : decode cL_law_ 2426 = .ok (.goto (-2403), 3) := by decide +kernel
theorem dL_law__2429 : decode cL_law_ 2429 = .ok (.iconst 1, 1) := by decide +kernel
theorem dL_law__2430 : decode cL_law_ 2430 = .ok (.ireturn, 1) := by decide +kernel
