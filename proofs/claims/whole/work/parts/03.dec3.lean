theorem dX12_beginsAnew_134 : decode cX12_beginsAnew 134 = .ok (.if_icmp .ge 19, 3) := by decide +kernel
theorem dX12_beginsAnew_137 : decode cX12_beginsAnew 137 = .ok (.aload_n 0, 1) := by decide +kernel
theorem dX12_beginsAnew_138 : decode cX12_beginsAnew 138 = .ok (.getfield 67, 3) := by decide +kernel
theorem dX12_beginsAnew_141 : decode cX12_beginsAnew 141 = .ok (.bipush 24, 2) := by decide +kernel
theorem dX12_beginsAnew_143 : decode cX12_beginsAnew 143 = .ok (.iload_n 1, 1) := by decide +kernel
theorem dX12_beginsAnew_144 : decode cX12_beginsAnew 144 = .ok (.iadd, 1) := by decide +kernel
theorem dX12_beginsAnew_145 : decode cX12_beginsAnew 145 = .ok (.iconst (-1), 1) := by decide +kernel
theorem dX12_beginsAnew_146 : decode cX12_beginsAnew 146 = .ok (.iastore, 1) := by decide +kernel
theorem dX12_beginsAnew_147 : decode cX12_beginsAnew 147 = .ok (.iinc 1 1, 3) := by decide +kernel
theorem dX12_beginsAnew_150 : decode cX12_beginsAnew 150 = .ok (.goto (-18), 3) := by decide +kernel
theorem dX12_beginsAnew_153 : decode cX12_beginsAnew 153 = .ok (.aload_n 0, 1) := by decide +kernel
theorem dX12_beginsAnew_154 : decode cX12_beginsAnew 154 = .ok (.getfield 67, 3) := by decide +kernel
theorem dX12_beginsAnew_157 : decode cX12_beginsAnew 157 = .ok (.bipush 29, 2) := by decide +kernel
theorem dX12_beginsAnew_159 : decode cX12_beginsAnew 159 = .ok (.aload_n 0, 1) := by decide +kernel
theorem dX12_beginsAnew_160 : decode cX12_beginsAnew 160 = .ok (.getfield 23, 3) := by decide +kernel
theorem dX12_beginsAnew_163 : decode cX12_beginsAnew 163 = .ok (.iconst 3, 1) := by decide +kernel
theorem dX12_beginsAnew_164 : decode cX12_beginsAnew 164 = .ok (.iaload, 1) := by decide +kernel
theorem dX12_beginsAnew_165 : decode cX12_beginsAnew 165 = .ok (.iastore, 1) := by decide +kernel
theorem dX12_beginsAnew_166 : decode cX12_beginsAnew 166 = .ok (.aload_n 0, 1) := by decide +kernel
theorem dX12_beginsAnew_167 : decode cX12_beginsAnew 167 = .ok (.iconst 0, 1) := by decide +kernel
theorem dX12_beginsAnew_168 : decode cX12_beginsAnew 168 = .ok (.putfield 202, 3) := by decide +kernel
theorem dX12_beginsAnew_171 : decode cX12_beginsAnew 171 = .ok (.aload_n 0, 1) := by decide +kernel
theorem dX12_beginsAnew_172 : decode cX12_beginsAnew 172 = .ok (.iconst 0, 1) := by decide +kernel
theorem dX12_beginsAnew_173 : decode cX12_beginsAnew 173 = .ok (.putfield 205, 3) := by decide +kernel
theorem dX12_beginsAnew_176 : decode cX12_beginsAnew 176 = .ok (.aload_n 0, 1) := by decide +kernel
theorem dX12_beginsAnew_177 : decode cX12_beginsAnew 177 = .ok (.iconst 0, 1) := by decide +kernel
theorem dX12_beginsAnew_178 : decode cX12_beginsAnew 178 = .ok (.putfield 208, 3) := by decide +kernel
theorem dX12_beginsAnew_181 : decode cX12_beginsAnew 181 = .ok (.aload_n 0, 1) := by decide +kernel
theorem dX12_beginsAnew_182 : decode cX12_beginsAnew 182 = .ok (.iconst 0, 1) := by decide +kernel
theorem dX12_beginsAnew_183 : decode cX12_beginsAnew 183 = .ok (.putfield 211, 3) := by decide +kernel
theorem dX12_beginsAnew_186 : decode cX12_beginsAnew 186 = .ok (.aload_n 0, 1) := by decide +kernel
theorem dX12_beginsAnew_187 : decode cX12_beginsAnew 187 = .ok (.iconst 0, 1) := by decide +kernel
theorem dX12_beginsAnew_188 : decode cX12_beginsAnew 188 = .ok (.putfield 214, 3) := by decide +kernel
theorem dX12_beginsAnew_191 : decode cX12_beginsAnew 191 = .ok (.return_, 1) := by decide +kernel
theorem dX12_notes_0 : decode cX12_notes 0 = .ok (.aload_n 0, 1) := by decide +kernel
theorem dX12_notes_1 : decode cX12_notes 1 = .ok (.getfield 119, 3) := by decide +kernel
theorem dX12_notes_4 : decode cX12_notes 4 = .ok (.ifCond .eq 4, 3) := by decide +kernel
theorem dX12_notes_7 : decode cX12_notes 7 = .ok (.return_, 1) := by decide +kernel
theorem dX12_notes_8 : decode cX12_notes 8 = .ok (.aload_n 0, 1) := by decide +kernel
theorem dX12_notes_9 : decode cX12_notes 9 = .ok (.getfield 49, 3) := by decide +kernel
theorem dX12_notes_12 : decode cX12_notes 12 = .ok (.aload_n 0, 1) := by decide +kernel
theorem dX12_notes_13 : decode cX12_notes 13 = .ok (.getfield 217, 3) := by decide +kernel
theorem dX12_notes_16 : decode cX12_notes 16 = .ok (.aaload, 1) := by decide +kernel
theorem dX12_notes_17 : decode cX12_notes 17 = .ok (.iconst 0, 1) := by decide +kernel
theorem dX12_notes_18 : decode cX12_notes 18 = .ok (.iload_n 1, 1) := by decide +kernel
theorem dX12_notes_19 : decode cX12_notes 19 = .ok (.iastore, 1) := by decide +kernel
theorem dX12_notes_20 : decode cX12_notes 20 = .ok (.aload_n 0, 1) := by decide +kernel
theorem dX12_notes_21 : decode cX12_notes 21 = .ok (.getfield 49, 3) := by decide +kernel
theorem dX12_notes_24 : decode cX12_notes 24 = .ok (.aload_n 0, 1) := by decide +kernel
theorem dX12_notes_25 : decode cX12_notes 25 = .ok (.getfield 217, 3) := by decide +kernel
theorem dX12_notes_28 : decode cX12_notes 28 = .ok (.aaload, 1) := by decide +kernel
theorem dX12_notes_29 : decode cX12_notes 29 = .ok (.iconst 1, 1) := by decide +kernel
theorem dX12_notes_30 : decode cX12_notes 30 = .ok (.iload_n 2, 1) := by decide +kernel
theorem dX12_notes_31 : decode cX12_notes 31 = .ok (.iastore, 1) := by decide +kernel
theorem dX12_notes_32 : decode cX12_notes 32 = .ok (.aload_n 0, 1) := by decide +kernel
theorem dX12_notes_33 : decode cX12_notes 33 = .ok (.dup, 1) := by decide +kernel
theorem dX12_notes_34 : decode cX12_notes 34 = .ok (.getfield 217, 3) := by decide +kernel
theorem dX12_notes_37 : decode cX12_notes 37 = .ok (.iconst 1, 1) := by decide +kernel
theorem dX12_notes_38 : decode cX12_notes 38 = .ok (.iadd, 1) := by decide +kernel
theorem dX12_notes_39 : decode cX12_notes 39 = .ok (.putfield 217, 3) := by decide +kernel
theorem dX12_notes_42 : decode cX12_notes 42 = .ok (.return_, 1) := by decide +kernel
theorem dX12_opensOne_0 : decode cX12_opensOne 0 = .ok (.aload_n 0, 1) := by decide +kernel
theorem dX12_opensOne_1 : decode cX12_opensOne 1 = .ok (.getfield 119, 3) := by decide +kernel
theorem dX12_opensOne_4 : decode cX12_opensOne 4 = .ok (.ifCond .ne 24, 3) := by decide +kernel
theorem dX12_opensOne_7 : decode cX12_opensOne 7 = .ok (.aload_n 0, 1) := by decide +kernel
theorem dX12_opensOne_8 : decode cX12_opensOne 8 = .ok (.getfield 162, 3) := by decide +kernel
theorem dX12_opensOne_11 : decode cX12_opensOne 11 = .ok (.bipush 6, 2) := by decide +kernel
theorem dX12_opensOne_13 : decode cX12_opensOne 13 = .ok (.if_icmp .ne 15, 3) := by decide +kernel
theorem dX12_opensOne_16 : decode cX12_opensOne 16 = .ok (.aload_n 0, 1) := by decide +kernel
theorem dX12_opensOne_17 : decode cX12_opensOne 17 = .ok (.iconst 3, 1) := by decide +kernel
theorem dX12_opensOne_18 : decode cX12_opensOne 18 = .ok (.aload_n 0, 1) := by decide +kernel
theorem dX12_opensOne_19 : decode cX12_opensOne 19 = .ok (.getfield 112, 3) := by decide +kernel
theorem dX12_opensOne_22 : decode cX12_opensOne 22 = .ok (.invokevirtual 132, 3) := by decide +kernel
theorem dX12_opensOne_25 : decode cX12_opensOne 25 = .ok (.goto 20, 3) := by decide +kernel
theorem dX12_opensOne_28 : decode cX12_opensOne 28 = .ok (.aload_n 0, 1) := by decide +kernel
theorem dX12_opensOne_29 : decode cX12_opensOne 29 = .ok (.getfield 119, 3) := by decide +kernel
theorem dX12_opensOne_32 : decode cX12_opensOne 32 = .ok (.ifCond .ne 13, 3) := by decide +kernel
theorem dX12_opensOne_35 : decode cX12_opensOne 35 = .ok (.aload_n 0, 1) := by decide +kernel
theorem dX12_opensOne_36 : decode cX12_opensOne 36 = .ok (.dup, 1) := by decide +kernel
theorem dX12_opensOne_37 : decode cX12_opensOne 37 = .ok (.getfield 162, 3) := by decide +kernel
theorem dX12_opensOne_40 : decode cX12_opensOne 40 = .ok (.iconst 1, 1) := by decide +kernel
theorem dX12_opensOne_41 : decode cX12_opensOne 41 = .ok (.iadd, 1) := by decide +kernel
theorem dX12_opensOne_42 : decode cX12_opensOne 42 = .ok (.putfield 162, 3) := by decide +kernel
theorem dX12_opensOne_45 : decode cX12_opensOne 45 = .ok (.aload_n 0, 1) := by decide +kernel
theorem dX12_opensOne_46 : decode cX12_opensOne 46 = .ok (.getfield 119, 3) := by decide +kernel
theorem dX12_opensOne_49 : decode cX12_opensOne 49 = .ok (.ifCond .ne 7, 3) := by decide +kernel
theorem dX12_opensOne_52 : decode cX12_opensOne 52 = .ok (.iconst 1, 1) := by decide +kernel
theorem dX12_opensOne_53 : decode cX12_opensOne 53 = .ok (.goto 4, 3) := by decide +kernel
theorem dX12_opensOne_56 : decode cX12_opensOne 56 = .ok (.iconst 0, 1) := by decide +kernel
theorem dX12_opensOne_57 : decode cX12_opensOne 57 = .ok (.ireturn, 1) := by decide +kernel
theorem dX12_sum_0 : decode cX12_sum 0 = .ok (.aload_n 0, 1) := by decide +kernel
theorem dX12_sum_1 : decode cX12_sum 1 = .ok (.invokevirtual 220, 3) := by decide +kernel
theorem dX12_sum_4 : decode cX12_sum 4 = .ok (.aload_n 0, 1) := by decide +kernel
theorem dX12_sum_5 : decode cX12_sum 5 = .ok (.getfield 119, 3) := by decide +kernel
theorem dX12_sum_8 : decode cX12_sum 8 = .ok (.ifCond .ne 50, 3) := by decide +kernel
theorem dX12_sum_11 : decode cX12_sum 11 = .ok (.aload_n 0, 1) := by decide +kernel
theorem dX12_sum_12 : decode cX12_sum 12 = .ok (.bipush 43, 2) := by decide +kernel
theorem dX12_sum_14 : decode cX12_sum 14 = .ok (.invokevirtual 223, 3) := by decide +kernel
theorem dX12_sum_17 : decode cX12_sum 17 = .ok (.ifCond .eq 7, 3) := by decide +kernel
theorem dX12_sum_20 : decode cX12_sum 20 = .ok (.iconst 2, 1) := by decide +kernel
theorem dX12_sum_21 : decode cX12_sum 21 = .ok (.goto 17, 3) := by decide +kernel
theorem dX12_sum_24 : decode cX12_sum 24 = .ok (.aload_n 0, 1) := by decide +kernel
theorem dX12_sum_25 : decode cX12_sum 25 = .ok (.bipush 45, 2) := by decide +kernel
theorem dX12_sum_27 : decode cX12_sum 27 = .ok (.invokevirtual 223, 3) := by decide +kernel
theorem dX12_sum_30 : decode cX12_sum 30 = .ok (.ifCond .eq 7, 3) := by decide +kernel
theorem dX12_sum_33 : decode cX12_sum 33 = .ok (.iconst 3, 1) := by decide +kernel
theorem dX12_sum_34 : decode cX12_sum 34 = .ok (.goto 4, 3) := by decide +kernel
theorem dX12_sum_37 : decode cX12_sum 37 = .ok (.iconst (-1), 1) := by decide +kernel
theorem dX12_sum_38 : decode cX12_sum 38 = .ok (.istore_n 1, 1) := by decide +kernel
theorem dX12_sum_39 : decode cX12_sum 39 = .ok (.iload_n 1, 1) := by decide +kernel
theorem dX12_sum_40 : decode cX12_sum 40 = .ok (.iconst (-1), 1) := by decide +kernel
theorem dX12_sum_41 : decode cX12_sum 41 = .ok (.if_icmp .ne 4, 3) := by decide +kernel
theorem dX12_sum_44 : decode cX12_sum 44 = .ok (.return_, 1) := by decide +kernel
theorem dX12_sum_45 : decode cX12_sum 45 = .ok (.aload_n 0, 1) := by decide +kernel
theorem dX12_sum_46 : decode cX12_sum 46 = .ok (.invokevirtual 220, 3) := by decide +kernel
theorem dX12_sum_49 : decode cX12_sum 49 = .ok (.aload_n 0, 1) := by decide +kernel
theorem dX12_sum_50 : decode cX12_sum 50 = .ok (.iload_n 1, 1) := by decide +kernel
theorem dX12_sum_51 : decode cX12_sum 51 = .ok (.iconst 0, 1) := by decide +kernel
theorem dX12_sum_52 : decode cX12_sum 52 = .ok (.invokevirtual 226, 3) := by decide +kernel
theorem dX12_sum_55 : decode cX12_sum 55 = .ok (.goto (-51), 3) := by decide +kernel
theorem dX12_sum_58 : decode cX12_sum 58 = .ok (.return_, 1) := by decide +kernel
theorem dX12_product_0 : decode cX12_product 0 = .ok (.aload_n 0, 1) := by decide +kernel
theorem dX12_product_1 : decode cX12_product 1 = .ok (.invokevirtual 229, 3) := by decide +kernel
theorem dX12_product_4 : decode cX12_product 4 = .ok (.aload_n 0, 1) := by decide +kernel
theorem dX12_product_5 : decode cX12_product 5 = .ok (.getfield 119, 3) := by decide +kernel
theorem dX12_product_8 : decode cX12_product 8 = .ok (.ifCond .ne 64, 3) := by decide +kernel
theorem dX12_product_11 : decode cX12_product 11 = .ok (.aload_n 0, 1) := by decide +kernel
theorem dX12_product_12 : decode cX12_product 12 = .ok (.bipush 42, 2) := by decide +kernel
theorem dX12_product_14 : decode cX12_product 14 = .ok (.invokevirtual 223, 3) := by decide +kernel
theorem dX12_product_17 : decode cX12_product 17 = .ok (.ifCond .eq 7, 3) := by decide +kernel
theorem dX12_product_20 : decode cX12_product 20 = .ok (.iconst 4, 1) := by decide +kernel
theorem dX12_product_21 : decode cX12_product 21 = .ok (.goto 31, 3) := by decide +kernel
theorem dX12_product_24 : decode cX12_product 24 = .ok (.aload_n 0, 1) := by decide +kernel
theorem dX12_product_25 : decode cX12_product 25 = .ok (.bipush 47, 2) := by decide +kernel
theorem dX12_product_27 : decode cX12_product 27 = .ok (.invokevirtual 223, 3) := by decide +kernel
theorem dX12_product_30 : decode cX12_product 30 = .ok (.ifCond .eq 7, 3) := by decide +kernel
theorem dX12_product_33 : decode cX12_product 33 = .ok (.iconst 5, 1) := by decide +kernel
theorem dX12_product_34 : decode cX12_product 34 = .ok (.goto 18, 3) := by decide +kernel
theorem dX12_product_37 : decode cX12_product 37 = .ok (.aload_n 0, 1) := by decide +kernel
theorem dX12_product_38 : decode cX12_product 38 = .ok (.bipush 37, 2) := by decide +kernel
theorem dX12_product_40 : decode cX12_product 40 = .ok (.invokevirtual 223, 3) := by decide +kernel
theorem dX12_product_43 : decode cX12_product 43 = .ok (.ifCond .eq 8, 3) := by decide +kernel
theorem dX12_product_46 : decode cX12_product 46 = .ok (.bipush 6, 2) := by decide +kernel
theorem dX12_product_48 : decode cX12_product 48 = .ok (.goto 4, 3) := by decide +kernel
theorem dX12_product_51 : decode cX12_product 51 = .ok (.iconst (-1), 1) := by decide +kernel
theorem dX12_product_52 : decode cX12_product 52 = .ok (.istore_n 1, 1) := by decide +kernel
theorem dX12_product_53 : decode cX12_product 53 = .ok (.iload_n 1, 1) := by decide +kernel
theorem dX12_product_54 : decode cX12_product 54 = .ok (.iconst (-1), 1) := by decide +kernel
theorem dX12_product_55 : decode cX12_product 55 = .ok (.if_icmp .ne 4, 3) := by decide +kernel
theorem dX12_product_58 : decode cX12_product 58 = .ok (.return_, 1) := by decide +kernel
theorem dX12_product_59 : decode cX12_product 59 = .ok (.aload_n 0, 1) := by decide +kernel
theorem dX12_product_60 : decode cX12_product 60 = .ok (.invokevirtual 229, 3) := by decide +kernel
theorem dX12_product_63 : decode cX12_product 63 = .ok (.aload_n 0, 1) := by decide +kernel
theorem dX12_product_64 : decode cX12_product 64 = .ok (.iload_n 1, 1) := by decide +kernel
theorem dX12_product_65 : decode cX12_product 65 = .ok (.iconst 0, 1) := by decide +kernel
theorem dX12_product_66 : decode cX12_product 66 = .ok (.invokevirtual 226, 3) := by decide +kernel
theorem dX12_product_69 : decode cX12_product 69 = .ok (.goto (-65), 3) := by decide +kernel
theorem dX12_product_72 : decode cX12_product 72 = .ok (.return_, 1) := by decide +kernel
theorem dX12_knownHere_0 : decode cX12_knownHere 0 = .ok (.aload_n 0, 1) := by decide +kernel
theorem dX12_knownHere_1 : decode cX12_knownHere 1 = .ok (.bipush 6, 2) := by decide +kernel
theorem dX12_knownHere_3 : decode cX12_knownHere 3 = .ok (.bipush 12, 2) := by decide +kernel
theorem dX12_knownHere_5 : decode cX12_knownHere 5 = .ok (.bipush 15, 2) := by decide +kernel
theorem dX12_knownHere_7 : decode cX12_knownHere 7 = .ok (.bipush 23, 2) := by decide +kernel
theorem dX12_knownHere_9 : decode cX12_knownHere 9 = .ok (.iconst 0, 1) := by decide +kernel
theorem dX12_knownHere_10 : decode cX12_knownHere 10 = .ok (.iconst 0, 1) := by decide +kernel
theorem dX12_knownHere_11 : decode cX12_knownHere 11 = .ok (.invokevirtual 232, 3) := by decide +kernel
theorem dX12_knownHere_14 : decode cX12_knownHere 14 = .ok (.ifCond .eq 5, 3) := by decide +kernel
theorem dX12_knownHere_17 : decode cX12_knownHere 17 = .ok (.iconst 0, 1) := by decide +kernel
theorem dX12_knownHere_18 : decode cX12_knownHere 18 = .ok (.ireturn, 1) := by decide +kernel
theorem dX12_knownHere_19 : decode cX12_knownHere 19 = .ok (.aload_n 0, 1) := by decide +kernel
theorem dX12_knownHere_20 : decode cX12_knownHere 20 = .ok (.bipush 12, 2) := by decide +kernel
theorem dX12_knownHere_22 : decode cX12_knownHere 22 = .ok (.bipush 15, 2) := by decide +kernel
theorem dX12_knownHere_24 : decode cX12_knownHere 24 = .ok (.bipush 19, 2) := by decide +kernel
theorem dX12_knownHere_26 : decode cX12_knownHere 26 = .ok (.bipush 19, 2) := by decide +kernel
theorem dX12_knownHere_28 : decode cX12_knownHere 28 = .ok (.iconst 0, 1) := by decide +kernel
theorem dX12_knownHere_29 : decode cX12_knownHere 29 = .ok (.iconst 0, 1) := by decide +kernel
theorem dX12_knownHere_30 : decode cX12_knownHere 30 = .ok (.invokevirtual 232, 3) := by decide +kernel
theorem dX12_knownHere_33 : decode cX12_knownHere 33 = .ok (.ifCond .eq 5, 3) := by decide +kernel
theorem dX12_knownHere_36 : decode cX12_knownHere 36 = .ok (.iconst 1, 1) := by decide +kernel
theorem dX12_knownHere_37 : decode cX12_knownHere 37 = .ok (.ireturn, 1) := by decide +kernel
theorem dX12_knownHere_38 : decode cX12_knownHere 38 = .ok (.aload_n 0, 1) := by decide +kernel
theorem dX12_knownHere_39 : decode cX12_knownHere 39 = .ok (.bipush 12, 2) := by decide +kernel
theorem dX12_knownHere_41 : decode cX12_knownHere 41 = .ok (.iconst 5, 1) := by decide +kernel
theorem dX12_knownHere_42 : decode cX12_knownHere 42 = .ok (.bipush 14, 2) := by decide +kernel
theorem dX12_knownHere_44 : decode cX12_knownHere 44 = .ok (.bipush 7, 2) := by decide +kernel
theorem dX12_knownHere_46 : decode cX12_knownHere 46 = .ok (.bipush 20, 2) := by decide +kernel
theorem dX12_knownHere_48 : decode cX12_knownHere 48 = .ok (.bipush 8, 2) := by decide +kernel
theorem dX12_knownHere_50 : decode cX12_knownHere 50 = .ok (.invokevirtual 232, 3) := by decide +kernel
theorem dX12_knownHere_53 : decode cX12_knownHere 53 = .ok (.ifCond .eq 5, 3) := by decide +kernel
theorem dX12_knownHere_56 : decode cX12_knownHere 56 = .ok (.iconst 2, 1) := by decide +kernel
theorem dX12_knownHere_57 : decode cX12_knownHere 57 = .ok (.ireturn, 1) := by decide +kernel
theorem dX12_knownHere_58 : decode cX12_knownHere 58 = .ok (.aload_n 0, 1) := by decide +kernel
theorem dX12_knownHere_59 : decode cX12_knownHere 59 = .ok (.iconst 2, 1) := by decide +kernel
theorem dX12_knownHere_60 : decode cX12_knownHere 60 = .ok (.iconst 5, 1) := by decide +kernel
theorem dX12_knownHere_61 : decode cX12_knownHere 61 = .ok (.bipush 14, 2) := by decide +kernel
theorem dX12_knownHere_63 : decode cX12_knownHere 63 = .ok (.iconst 4, 1) := by decide +kernel
theorem dX12_knownHere_64 : decode cX12_knownHere 64 = .ok (.bipush 19, 2) := by decide +kernel
theorem dX12_knownHere_66 : decode cX12_knownHere 66 = .ok (.iconst 0, 1) := by decide +kernel
theorem dX12_knownHere_67 : decode cX12_knownHere 67 = .ok (.invokevirtual 232, 3) := by decide +kernel
theorem dX12_knownHere_70 : decode cX12_knownHere 70 = .ok (.ifCond .eq 5, 3) := by decide +kernel
theorem dX12_knownHere_73 : decode cX12_knownHere 73 = .ok (.iconst 3, 1) := by decide +kernel
theorem dX12_knownHere_74 : decode cX12_knownHere 74 = .ok (.ireturn, 1) := by decide +kernel
theorem dX12_knownHere_75 : decode cX12_knownHere 75 = .ok (.aload_n 0, 1) := by decide +kernel
theorem dX12_knownHere_76 : decode cX12_knownHere 76 = .ok (.iconst 2, 1) := by decide +kernel
theorem dX12_knownHere_77 : decode cX12_knownHere 77 = .ok (.bipush 21, 2) := by decide +kernel
theorem dX12_knownHere_79 : decode cX12_knownHere 79 = .ok (.bipush 18, 2) := by decide +kernel
theorem dX12_knownHere_81 : decode cX12_knownHere 81 = .ok (.bipush 19, 2) := by decide +kernel
theorem dX12_knownHere_83 : decode cX12_knownHere 83 = .ok (.bipush 20, 2) := by decide +kernel
theorem dX12_knownHere_85 : decode cX12_knownHere 85 = .ok (.iconst 0, 1) := by decide +kernel
theorem dX12_knownHere_86 : decode cX12_knownHere 86 = .ok (.invokevirtual 232, 3) := by decide +kernel
theorem dX12_knownHere_89 : decode cX12_knownHere 89 = .ok (.ifCond .eq 5, 3) := by decide +kernel
theorem dX12_knownHere_92 : decode cX12_knownHere 92 = .ok (.iconst 4, 1) := by decide +kernel
theorem dX12_knownHere_93 : decode cX12_knownHere 93 = .ok (.ireturn, 1) := by decide +kernel
theorem dX12_knownHere_94 : decode cX12_knownHere 94 = .ok (.aload_n 0, 1) := by decide +kernel
theorem dX12_knownHere_95 : decode cX12_knownHere 95 = .ok (.bipush 16, 2) := by decide +kernel
theorem dX12_knownHere_97 : decode cX12_knownHere 97 = .ok (.bipush 12, 2) := by decide +kernel
theorem dX12_knownHere_99 : decode cX12_knownHere 99 = .ok (.iconst 1, 1) := by decide +kernel
theorem dX12_knownHere_100 : decode cX12_knownHere 100 = .ok (.iconst 3, 1) := by decide +kernel
theorem dX12_knownHere_101 : decode cX12_knownHere 101 = .ok (.iconst 5, 1) := by decide +kernel
theorem dX12_knownHere_102 : decode cX12_knownHere 102 = .ok (.iconst 0, 1) := by decide +kernel
theorem dX12_knownHere_103 : decode cX12_knownHere 103 = .ok (.invokevirtual 232, 3) := by decide +kernel
theorem dX12_knownHere_106 : decode cX12_knownHere 106 = .ok (.ifCond .eq 5, 3) := by decide +kernel
theorem dX12_knownHere_109 : decode cX12_knownHere 109 = .ok (.iconst 5, 1) := by decide +kernel
theorem dX12_knownHere_110 : decode cX12_knownHere 110 = .ok (.ireturn, 1) := by decide +kernel
theorem dX12_knownHere_111 : decode cX12_knownHere 111 = .ok (.aload_n 0, 1) := by decide +kernel
theorem dX12_knownHere_112 : decode cX12_knownHere 112 = .ok (.bipush 20, 2) := by decide +kernel
theorem dX12_knownHere_114 : decode cX12_knownHere 114 = .ok (.bipush 21, 2) := by decide +kernel
theorem dX12_knownHere_116 : decode cX12_knownHere 116 = .ok (.bipush 18, 2) := by decide +kernel
theorem dX12_knownHere_118 : decode cX12_knownHere 118 = .ok (.bipush 14, 2) := by decide +kernel
theorem dX12_knownHere_120 : decode cX12_knownHere 120 = .ok (.iconst 5, 1) := by decide +kernel
theorem dX12_knownHere_121 : decode cX12_knownHere 121 = .ok (.iconst 4, 1) := by decide +kernel
theorem dX12_knownHere_122 : decode cX12_knownHere 122 = .ok (.invokevirtual 232, 3) := by decide +kernel
theorem dX12_knownHere_125 : decode cX12_knownHere 125 = .ok (.ifCond .eq 6, 3) := by decide +kernel
theorem dX12_knownHere_128 : decode cX12_knownHere 128 = .ok (.bipush 6, 2) := by decide +kernel
theorem dX12_knownHere_130 : decode cX12_knownHere 130 = .ok (.ireturn, 1) := by decide +kernel
theorem dX12_knownHere_131 : decode cX12_knownHere 131 = .ok (.aload_n 0, 1) := by decide +kernel
theorem dX12_knownHere_132 : decode cX12_knownHere 132 = .ok (.bipush 8, 2) := by decide +kernel
theorem dX12_knownHere_134 : decode cX12_knownHere 134 = .ok (.bipush 15, 2) := by decide +kernel
theorem dX12_knownHere_136 : decode cX12_knownHere 136 = .ok (.bipush 16, 2) := by decide +kernel
theorem dX12_knownHere_138 : decode cX12_knownHere 138 = .ok (.iconst 5, 1) := by decide +kernel
theorem dX12_knownHere_139 : decode cX12_knownHere 139 = .ok (.iconst 0, 1) := by decide +kernel
theorem dX12_knownHere_140 : decode cX12_knownHere 140 = .ok (.iconst 0, 1) := by decide +kernel
theorem dX12_knownHere_141 : decode cX12_knownHere 141 = .ok (.invokevirtual 232, 3) := by decide +kernel
theorem dX12_knownHere_144 : decode cX12_knownHere 144 = .ok (.ifCond .eq 6, 3) := by decide +kernel
theorem dX12_knownHere_147 : decode cX12_knownHere 147 = .ok (.bipush 7, 2) := by decide +kernel
theorem dX12_knownHere_149 : decode cX12_knownHere 149 = .ok (.ireturn, 1) := by decide +kernel
theorem dX12_knownHere_150 : decode cX12_knownHere 150 = .ok (.aload_n 0, 1) := by decide +kernel
theorem dX12_knownHere_151 : decode cX12_knownHere 151 = .ok (.bipush 16, 2) := by decide +kernel
theorem dX12_knownHere_153 : decode cX12_knownHere 153 = .ok (.bipush 9, 2) := by decide +kernel
theorem dX12_knownHere_155 : decode cX12_knownHere 155 = .ok (.iconst 5, 1) := by decide +kernel
theorem dX12_knownHere_156 : decode cX12_knownHere 156 = .ok (.iconst 3, 1) := by decide +kernel
theorem dX12_knownHere_157 : decode cX12_knownHere 157 = .ok (.iconst 5, 1) := by decide +kernel
theorem dX12_knownHere_158 : decode cX12_knownHere 158 = .ok (.iconst 0, 1) := by decide +kernel
theorem dX12_knownHere_159 : decode cX12_knownHere 159 = .ok (.invokevirtual 232, 3) := by decide +kernel
theorem dX12_knownHere_162 : decode cX12_knownHere 162 = .ok (.ifCond .eq 8, 3) := by decide +kernel
theorem dX12_knownHere_165 : decode cX12_knownHere 165 = .ok (.bipush 8, 2) := by decide +kernel
theorem dX12_knownHere_167 : decode cX12_knownHere 167 = .ok (.goto 4, 3) := by decide +kernel
theorem dX12_knownHere_170 : decode cX12_knownHere 170 = .ok (.iconst (-1), 1) := by decide +kernel
theorem dX12_knownHere_171 : decode cX12_knownHere 171 = .ok (.ireturn, 1) := by decide +kernel
theorem dX12_one_0 : decode cX12_one 0 = .ok (.aload_n 0, 1) := by decide +kernel
theorem dX12_one_1 : decode cX12_one 1 = .ok (.getfield 119, 3) := by decide +kernel
theorem dX12_one_4 : decode cX12_one 4 = .ok (.ifCond .eq 4, 3) := by decide +kernel
theorem dX12_one_7 : decode cX12_one 7 = .ok (.return_, 1) := by decide +kernel
theorem dX12_one_8 : decode cX12_one 8 = .ok (.aload_n 0, 1) := by decide +kernel
theorem dX12_one_9 : decode cX12_one 9 = .ok (.invokevirtual 125, 3) := by decide +kernel
theorem dX12_one_12 : decode cX12_one 12 = .ok (.aload_n 0, 1) := by decide +kernel
theorem dX12_one_13 : decode cX12_one 13 = .ok (.bipush 12, 2) := by decide +kernel
theorem dX12_one_15 : decode cX12_one 15 = .ok (.iconst 5, 1) := by decide +kernel
theorem dX12_one_16 : decode cX12_one 16 = .ok (.iconst 1, 1) := by decide +kernel
theorem dX12_one_17 : decode cX12_one 17 = .ok (.bipush 19, 2) := by decide +kernel
theorem dX12_one_19 : decode cX12_one 19 = .ok (.bipush 20, 2) := by decide +kernel
theorem dX12_one_21 : decode cX12_one 21 = .ok (.iconst 0, 1) := by decide +kernel
theorem dX12_one_22 : decode cX12_one 22 = .ok (.invokevirtual 152, 3) := by decide +kernel
theorem dX12_one_25 : decode cX12_one 25 = .ok (.ifCond .eq 8, 3) := by decide +kernel
theorem dX12_one_28 : decode cX12_one 28 = .ok (.bipush 7, 2) := by decide +kernel
theorem dX12_one_30 : decode cX12_one 30 = .ok (.goto 26, 3) := by decide +kernel
theorem dX12_one_33 : decode cX12_one 33 = .ok (.aload_n 0, 1) := by decide +kernel
theorem dX12_one_34 : decode cX12_one 34 = .ok (.bipush 13, 2) := by decide +kernel
theorem dX12_one_36 : decode cX12_one 36 = .ok (.bipush 15, 2) := by decide +kernel
theorem dX12_one_38 : decode cX12_one 38 = .ok (.bipush 19, 2) := by decide +kernel
theorem dX12_one_40 : decode cX12_one 40 = .ok (.bipush 20, 2) := by decide +kernel
theorem dX12_one_42 : decode cX12_one 42 = .ok (.iconst 0, 1) := by decide +kernel
theorem dX12_one_43 : decode cX12_one 43 = .ok (.iconst 0, 1) := by decide +kernel
theorem dX12_one_44 : decode cX12_one 44 = .ok (.invokevirtual 152, 3) := by decide +kernel
theorem dX12_one_47 : decode cX12_one 47 = .ok (.ifCond .eq 8, 3) := by decide +kernel
theorem dX12_one_50 : decode cX12_one 50 = .ok (.bipush 8, 2) := by decide +kernel
theorem dX12_one_52 : decode cX12_one 52 = .ok (.goto 4, 3) := by decide +kernel
theorem dX12_one_55 : decode cX12_one 55 = .ok (.iconst (-1), 1) := by decide +kernel
theorem dX12_one_56 : decode cX12_one 56 = .ok (.istore_n 1, 1) := by decide +kernel
theorem dX12_one_57 : decode cX12_one 57 = .ok (.iload_n 1, 1) := by decide +kernel
theorem dX12_one_58 : decode cX12_one 58 = .ok (.iconst (-1), 1) := by decide +kernel
theorem dX12_one_59 : decode cX12_one 59 = .ok (.if_icmp .eq 58, 3) := by decide +kernel
theorem dX12_one_62 : decode cX12_one 62 = .ok (.aload_n 0, 1) := by decide +kernel
theorem dX12_one_63 : decode cX12_one 63 = .ok (.invokevirtual 235, 3) := by decide +kernel
theorem dX12_one_66 : decode cX12_one 66 = .ok (.ifCond .ne 4, 3) := by decide +kernel
theorem dX12_one_69 : decode cX12_one 69 = .ok (.return_, 1) := by decide +kernel
theorem dX12_one_70 : decode cX12_one 70 = .ok (.aload_n 0, 1) := by decide +kernel
theorem dX12_one_71 : decode cX12_one 71 = .ok (.invokevirtual 156, 3) := by decide +kernel
theorem dX12_one_74 : decode cX12_one 74 = .ok (.aload_n 0, 1) := by decide +kernel
theorem dX12_one_75 : decode cX12_one 75 = .ok (.bipush 91, 2) := by decide +kernel
theorem dX12_one_77 : decode cX12_one 77 = .ok (.invokevirtual 178, 3) := by decide +kernel
theorem dX12_one_80 : decode cX12_one 80 = .ok (.aload_n 0, 1) := by decide +kernel
theorem dX12_one_81 : decode cX12_one 81 = .ok (.invokevirtual 239, 3) := by decide +kernel
theorem dX12_one_84 : decode cX12_one 84 = .ok (.aload_n 0, 1) := by decide +kernel
theorem dX12_one_85 : decode cX12_one 85 = .ok (.bipush 44, 2) := by decide +kernel
theorem dX12_one_87 : decode cX12_one 87 = .ok (.invokevirtual 178, 3) := by decide +kernel
theorem dX12_one_90 : decode cX12_one 90 = .ok (.aload_n 0, 1) := by decide +kernel
theorem dX12_one_91 : decode cX12_one 91 = .ok (.invokevirtual 239, 3) := by decide +kernel
theorem dX12_one_94 : decode cX12_one 94 = .ok (.aload_n 0, 1) := by decide +kernel
theorem dX12_one_95 : decode cX12_one 95 = .ok (.bipush 93, 2) := by decide +kernel
theorem dX12_one_97 : decode cX12_one 97 = .ok (.invokevirtual 178, 3) := by decide +kernel
theorem dX12_one_100 : decode cX12_one 100 = .ok (.aload_n 0, 1) := by decide +kernel
theorem dX12_one_101 : decode cX12_one 101 = .ok (.iload_n 1, 1) := by decide +kernel
theorem dX12_one_102 : decode cX12_one 102 = .ok (.iconst 0, 1) := by decide +kernel
theorem dX12_one_103 : decode cX12_one 103 = .ok (.invokevirtual 226, 3) := by decide +kernel
theorem dX12_one_106 : decode cX12_one 106 = .ok (.aload_n 0, 1) := by decide +kernel
theorem dX12_one_107 : decode cX12_one 107 = .ok (.dup, 1) := by decide +kernel
theorem dX12_one_108 : decode cX12_one 108 = .ok (.getfield 162, 3) := by decide +kernel
theorem dX12_one_111 : decode cX12_one 111 = .ok (.iconst 1, 1) := by decide +kernel
theorem dX12_one_112 : decode cX12_one 112 = .ok (.isub, 1) := by decide +kernel
theorem dX12_one_113 : decode cX12_one 113 = .ok (.putfield 162, 3) := by decide +kernel
theorem dX12_one_116 : decode cX12_one 116 = .ok (.return_, 1) := by decide +kernel
theorem dX12_one_117 : decode cX12_one 117 = .ok (.aload_n 0, 1) := by decide +kernel
theorem dX12_one_118 : decode cX12_one 118 = .ok (.aload_n 0, 1) := by decide +kernel
theorem dX12_one_119 : decode cX12_one 119 = .ok (.getfield 112, 3) := by decide +kernel
theorem dX12_one_122 : decode cX12_one 122 = .ok (.invokevirtual 115, 3) := by decide +kernel
theorem dX12_one_125 : decode cX12_one 125 = .ok (.bipush 40, 2) := by decide +kernel
theorem dX12_one_127 : decode cX12_one 127 = .ok (.if_icmp .ne 42, 3) := by decide +kernel
theorem dX12_one_130 : decode cX12_one 130 = .ok (.aload_n 0, 1) := by decide +kernel
theorem dX12_one_131 : decode cX12_one 131 = .ok (.invokevirtual 235, 3) := by decide +kernel
theorem dX12_one_134 : decode cX12_one 134 = .ok (.ifCond .ne 4, 3) := by decide +kernel
theorem dX12_one_137 : decode cX12_one 137 = .ok (.return_, 1) := by decide +kernel
theorem dX12_one_138 : decode cX12_one 138 = .ok (.aload_n 0, 1) := by decide +kernel
theorem dX12_one_139 : decode cX12_one 139 = .ok (.dup, 1) := by decide +kernel
theorem dX12_one_140 : decode cX12_one 140 = .ok (.getfield 112, 3) := by decide +kernel
theorem dX12_one_143 : decode cX12_one 143 = .ok (.iconst 1, 1) := by decide +kernel
theorem dX12_one_144 : decode cX12_one 144 = .ok (.iadd, 1) := by decide +kernel
theorem dX12_one_145 : decode cX12_one 145 = .ok (.putfield 112, 3) := by decide +kernel
theorem dX12_one_148 : decode cX12_one 148 = .ok (.aload_n 0, 1) := by decide +kernel
theorem dX12_one_149 : decode cX12_one 149 = .ok (.invokevirtual 239, 3) := by decide +kernel
theorem dX12_one_152 : decode cX12_one 152 = .ok (.aload_n 0, 1) := by decide +kernel
theorem dX12_one_153 : decode cX12_one 153 = .ok (.bipush 41, 2) := by decide +kernel
theorem dX12_one_155 : decode cX12_one 155 = .ok (.invokevirtual 178, 3) := by decide +kernel
theorem dX12_one_158 : decode cX12_one 158 = .ok (.aload_n 0, 1) := by decide +kernel
theorem dX12_one_159 : decode cX12_one 159 = .ok (.dup, 1) := by decide +kernel
theorem dX12_one_160 : decode cX12_one 160 = .ok (.getfield 162, 3) := by decide +kernel
theorem dX12_one_163 : decode cX12_one 163 = .ok (.iconst 1, 1) := by decide +kernel
theorem dX12_one_164 : decode cX12_one 164 = .ok (.isub, 1) := by decide +kernel
theorem dX12_one_165 : decode cX12_one 165 = .ok (.putfield 162, 3) := by decide +kernel
theorem dX12_one_168 : decode cX12_one 168 = .ok (.return_, 1) := by decide +kernel
theorem dX12_one_169 : decode cX12_one 169 = .ok (.aload_n 0, 1) := by decide +kernel
theorem dX12_one_170 : decode cX12_one 170 = .ok (.invokevirtual 242, 3) := by decide +kernel
theorem dX12_one_173 : decode cX12_one 173 = .ok (.istore_n 2, 1) := by decide +kernel
theorem dX12_one_174 : decode cX12_one 174 = .ok (.iload_n 2, 1) := by decide +kernel
theorem dX12_one_175 : decode cX12_one 175 = .ok (.iconst (-1), 1) := by decide +kernel
theorem dX12_one_176 : decode cX12_one 176 = .ok (.if_icmp .eq 12, 3) := by decide +kernel
theorem dX12_one_179 : decode cX12_one 179 = .ok (.aload_n 0, 1) := by decide +kernel
theorem dX12_one_180 : decode cX12_one 180 = .ok (.iconst 1, 1) := by decide +kernel
theorem dX12_one_181 : decode cX12_one 181 = .ok (.iload_n 2, 1) := by decide +kernel
theorem dX12_one_182 : decode cX12_one 182 = .ok (.invokevirtual 226, 3) := by decide +kernel
theorem dX12_one_185 : decode cX12_one 185 = .ok (.goto 16, 3) := by decide +kernel
theorem dX12_one_188 : decode cX12_one 188 = .ok (.aload_n 0, 1) := by decide +kernel
theorem dX12_one_189 : decode cX12_one 189 = .ok (.iconst 0, 1) := by decide +kernel
theorem dX12_one_190 : decode cX12_one 190 = .ok (.aload_n 0, 1) := by decide +kernel
theorem dX12_one_191 : decode cX12_one 191 = .ok (.iconst 0, 1) := by decide +kernel
theorem dX12_one_192 : decode cX12_one 192 = .ok (.sipush 999, 3) := by decide +kernel
theorem dX12_one_195 : decode cX12_one 195 = .ok (.invokevirtual 165, 3) := by decide +kernel
theorem dX12_one_198 : decode cX12_one 198 = .ok (.invokevirtual 226, 3) := by decide +kernel
theorem dX12_one_201 : decode cX12_one 201 = .ok (.return_, 1) := by decide +kernel
theorem dX12_law_0 : decode cX12_law 0 = .ok (.aload_n 0, 1) := by decide +kernel
theorem dX12_law_1 : decode cX12_law 1 = .ok (.iconst 0, 1) := by decide +kernel
theorem dX12_law_2 : decode cX12_law 2 = .ok (.putfield 103, 3) := by decide +kernel
theorem dX12_law_5 : decode cX12_law 5 = .ok (.aload_n 0, 1) := by decide +kernel
theorem dX12_law_6 : decode cX12_law 6 = .ok (.iload_n 1, 1) := by decide +kernel
theorem dX12_law_7 : decode cX12_law 7 = .ok (.iconst 0, 1) := by decide +kernel
theorem dX12_law_8 : decode cX12_law 8 = .ok (.aload_n 0, 1) := by decide +kernel
theorem dX12_law_9 : decode cX12_law 9 = .ok (.getfield 106, 3) := by decide +kernel
theorem dX12_law_12 : decode cX12_law 12 = .ok (.invokestatic 137, 3) := by decide +kernel
theorem dX12_law_15 : decode cX12_law 15 = .ok (.ifCond .eq 10, 3) := by decide +kernel
theorem dX12_law_18 : decode cX12_law 18 = .ok (.iload_n 1, 1) := by decide +kernel
theorem dX12_law_19 : decode cX12_law 19 = .ok (.sipush 150, 3) := by decide +kernel
theorem dX12_law_22 : decode cX12_law 22 = .ok (.if_icmp .le 7, 3) := by decide +kernel
theorem dX12_law_25 : decode cX12_law 25 = .ok (.iconst 1, 1) := by decide +kernel
theorem dX12_law_26 : decode cX12_law 26 = .ok (.goto 4, 3) := by decide +kernel
theorem dX12_law_29 : decode cX12_law 29 = .ok (.iconst 0, 1) := by decide +kernel
theorem dX12_law_30 : decode cX12_law 30 = .ok (.iconst 1, 1) := by decide +kernel
theorem dX12_law_31 : decode cX12_law 31 = .ok (.iconst 1, 1) := by decide +kernel
theorem dX12_law_32 : decode cX12_law 32 = .ok (.invokevirtual 182, 3) := by decide +kernel
theorem dX12_law_35 : decode cX12_law 35 = .ok (.ifCond .eq 5, 3) := by decide +kernel
theorem dX12_law_38 : decode cX12_law 38 = .ok (.iconst 0, 1) := by decide +kernel
theorem dX12_law_39 : decode cX12_law 39 = .ok (.ireturn, 1) := by decide +kernel
theorem dX12_law_40 : decode cX12_law 40 = .ok (.aload_n 0, 1) := by decide +kernel
theorem dX12_law_41 : decode cX12_law 41 = .ok (.iload_n 1, 1) := by decide +kernel
theorem dX12_law_42 : decode cX12_law 42 = .ok (.invokevirtual 186, 3) := by decide +kernel
theorem dX12_law_45 : decode cX12_law 45 = .ok (.aload_n 0, 1) := by decide +kernel
theorem dX12_law_46 : decode cX12_law 46 = .ok (.iconst 0, 1) := by decide +kernel
theorem dX12_law_47 : decode cX12_law 47 = .ok (.putfield 217, 3) := by decide +kernel
theorem dX12_law_50 : decode cX12_law 50 = .ok (.aload_n 0, 1) := by decide +kernel
theorem dX12_law_51 : decode cX12_law 51 = .ok (.invokevirtual 239, 3) := by decide +kernel
theorem dX12_law_54 : decode cX12_law 54 = .ok (.aload_n 0, 1) := by decide +kernel
theorem dX12_law_55 : decode cX12_law 55 = .ok (.invokevirtual 125, 3) := by decide +kernel
theorem dX12_law_58 : decode cX12_law 58 = .ok (.aload_n 0, 1) := by decide +kernel
theorem dX12_law_59 : decode cX12_law 59 = .ok (.getfield 119, 3) := by decide +kernel
theorem dX12_law_62 : decode cX12_law 62 = .ok (.ifCond .ne 23, 3) := by decide +kernel
theorem dX12_law_65 : decode cX12_law 65 = .ok (.aload_n 0, 1) := by decide +kernel
theorem dX12_law_66 : decode cX12_law 66 = .ok (.getfield 112, 3) := by decide +kernel
theorem dX12_law_69 : decode cX12_law 69 = .ok (.aload_n 0, 1) := by decide +kernel
theorem dX12_law_70 : decode cX12_law 70 = .ok (.getfield 109, 3) := by decide +kernel
theorem dX12_law_73 : decode cX12_law 73 = .ok (.if_icmp .ge 12, 3) := by decide +kernel
theorem dX12_law_76 : decode cX12_law 76 = .ok (.aload_n 0, 1) := by decide +kernel
theorem dX12_law_77 : decode cX12_law 77 = .ok (.iconst 1, 1) := by decide +kernel
theorem dX12_law_78 : decode cX12_law 78 = .ok (.aload_n 0, 1) := by decide +kernel
theorem dX12_law_79 : decode cX12_law 79 = .ok (.getfield 112, 3) := by decide +kernel
theorem dX12_law_82 : decode cX12_law 82 = .ok (.invokevirtual 132, 3) := by decide +kernel
theorem dX12_law_85 : decode cX12_law 85 = .ok (.aload_n 0, 1) := by decide +kernel
theorem dX12_law_86 : decode cX12_law 86 = .ok (.getfield 119, 3) := by decide +kernel
theorem dX12_law_89 : decode cX12_law 89 = .ok (.ifCond .eq 8, 3) := by decide +kernel
theorem dX12_law_92 : decode cX12_law 92 = .ok (.aload_n 0, 1) := by decide +kernel
theorem dX12_law_93 : decode cX12_law 93 = .ok (.invokevirtual 192, 3) := by decide +kernel
theorem dX12_law_96 : decode cX12_law 96 = .ok (.ireturn, 1) := by decide +kernel
theorem dX12_law_97 : decode cX12_law 97 = .ok (.aload_n 0, 1) := by decide +kernel
theorem dX12_law_98 : decode cX12_law 98 = .ok (.iconst (-1), 1) := by decide +kernel
theorem dX12_law_99 : decode cX12_law 99 = .ok (.putfield 9, 3) := by decide +kernel
theorem dX12_law_102 : decode cX12_law 102 = .ok (.aload_n 0, 1) := by decide +kernel
theorem dX12_law_103 : decode cX12_law 103 = .ok (.aload_n 0, 1) := by decide +kernel
theorem dX12_law_104 : decode cX12_law 104 = .ok (.getfield 217, 3) := by decide +kernel
theorem dX12_law_107 : decode cX12_law 107 = .ok (.putfield 202, 3) := by decide +kernel
theorem dX12_law_110 : decode cX12_law 110 = .ok (.aload_n 0, 1) := by decide +kernel
theorem dX12_law_111 : decode cX12_law 111 = .ok (.getfield 49, 3) := by decide +kernel
theorem dX12_law_114 : decode cX12_law 114 = .ok (.aload_n 0, 1) := by decide +kernel
theorem dX12_law_115 : decode cX12_law 115 = .ok (.getfield 46, 3) := by decide +kernel
theorem dX12_law_118 : decode cX12_law 118 = .ok (.aload_n 0, 1) := by decide +kernel
theorem dX12_law_119 : decode cX12_law 119 = .ok (.getfield 202, 3) := by decide +kernel
theorem dX12_law_122 : decode cX12_law 122 = .ok (.invokestatic 195, 3) := by decide +kernel
theorem dX12_law_125 : decode cX12_law 125 = .ok (.iconst 1, 1) := by decide +kernel
theorem dX12_law_126 : decode cX12_law 126 = .ok (.ireturn, 1) := by decide +kernel
theorem dX12_by_0 : decode cX12_by 0 = .ok (.iload_n 0, 1) := by decide +kernel
theorem dX12_by_1 : decode cX12_by 1 = .ok (.tableswitch 96 2 7 #[39, 43, 47, 51, 73, 90], 39) := by decide +kernel
theorem dX12_by_40 : decode cX12_by 40 = .ok (.iload_n 1, 1) := by decide +kernel
theorem dX12_by_41 : decode cX12_by 41 = .ok (.iload_n 2, 1) := by decide +kernel
theorem dX12_by_42 : decode cX12_by 42 = .ok (.iadd, 1) := by decide +kernel
theorem dX12_by_43 : decode cX12_by 43 = .ok (.ireturn, 1) := by decide +kernel
theorem dX12_by_44 : decode cX12_by 44 = .ok (.iload_n 1, 1) := by decide +kernel
theorem dX12_by_45 : decode cX12_by 45 = .ok (.iload_n 2, 1) := by decide +kernel
theorem dX12_by_46 : decode cX12_by 46 = .ok (.isub, 1) := by decide +kernel
theorem dX12_by_47 : decode cX12_by 47 = .ok (.ireturn, 1) := by decide +kernel
theorem dX12_by_48 : decode cX12_by 48 = .ok (.iload_n 1, 1) := by decide +kernel
theorem dX12_by_49 : decode cX12_by 49 = .ok (.iload_n 2, 1) := by decide +kernel
theorem dX12_by_50 : decode cX12_by 50 = .ok (.imul, 1) := by decide +kernel
theorem dX12_by_51 : decode cX12_by 51 = .ok (.ireturn, 1) := by decide +kernel
theorem dX12_by_52 : decode cX12_by 52 = .ok (.iload_n 2, 1) := by decide +kernel
theorem dX12_by_53 : decode cX12_by 53 = .ok (.ifCond .ne 7, 3) := by decide +kernel
theorem dX12_by_56 : decode cX12_by 56 = .ok (.iconst 0, 1) := by decide +kernel
theorem dX12_by_57 : decode cX12_by 57 = .ok (.goto 16, 3) := by decide +kernel
theorem dX12_by_60 : decode cX12_by 60 = .ok (.iload_n 2, 1) := by decide +kernel
theorem dX12_by_61 : decode cX12_by 61 = .ok (.iconst (-1), 1) := by decide +kernel
theorem dX12_by_62 : decode cX12_by 62 = .ok (.if_icmp .ne 8, 3) := by decide +kernel
theorem dX12_by_65 : decode cX12_by 65 = .ok (.iload_n 1, 1) := by decide +kernel
theorem dX12_by_66 : decode cX12_by 66 = .ok (.ineg, 1) := by decide +kernel
theorem dX12_by_67 : decode cX12_by 67 = .ok (.goto 6, 3) := by decide +kernel
theorem dX12_by_70 : decode cX12_by 70 = .ok (.iload_n 1, 1) := by decide +kernel
theorem dX12_by_71 : decode cX12_by 71 = .ok (.iload_n 2, 1) := by decide +kernel
theorem dX12_by_72 : decode cX12_by 72 = .ok (.idiv, 1) := by decide +kernel
theorem dX12_by_73 : decode cX12_by 73 = .ok (.ireturn, 1) := by decide +kernel
theorem dX12_by_74 : decode cX12_by 74 = .ok (.iload_n 2, 1) := by decide +kernel
theorem dX12_by_75 : decode cX12_by 75 = .ok (.ifCond .eq 8, 3) := by decide +kernel
theorem dX12_by_78 : decode cX12_by 78 = .ok (.iload_n 2, 1) := by decide +kernel
theorem dX12_by_79 : decode cX12_by 79 = .ok (.iconst (-1), 1) := by decide +kernel
theorem dX12_by_80 : decode cX12_by 80 = .ok (.if_icmp .ne 7, 3) := by decide +kernel
theorem dX12_by_83 : decode cX12_by 83 = .ok (.iconst 0, 1) := by decide +kernel
theorem dX12_by_84 : decode cX12_by 84 = .ok (.goto 6, 3) := by decide +kernel
theorem dX12_by_87 : decode cX12_by 87 = .ok (.iload_n 1, 1) := by decide +kernel
theorem dX12_by_88 : decode cX12_by 88 = .ok (.iload_n 2, 1) := by decide +kernel
theorem dX12_by_89 : decode cX12_by 89 = .ok (.irem, 1) := by decide +kernel
theorem dX12_by_90 : decode cX12_by 90 = .ok (.ireturn, 1) := by decide +kernel
theorem dX12_by_91 : decode cX12_by 91 = .ok (.iload_n 1, 1) := by decide +kernel
theorem dX12_by_92 : decode cX12_by 92 = .ok (.iload_n 2, 1) := by decide +kernel
theorem dX12_by_93 : decode cX12_by 93 = .ok (.invokestatic 245, 3) := by decide +kernel
theorem dX12_by_96 : decode cX12_by 96 = .ok (.ireturn, 1) := by decide +kernel
theorem dX12_by_97 : decode cX12_by 97 = .ok (.iload_n 1, 1) := by decide +kernel
theorem dX12_by_98 : decode cX12_by 98 = .ok (.iload_n 2, 1) := by decide +kernel
theorem dX12_by_99 : decode cX12_by 99 = .ok (.invokestatic 248, 3) := by decide +kernel
theorem dX12_by_102 : decode cX12_by 102 = .ok (.ireturn, 1) := by decide +kernel
theorem dX12_byLaw_0 : decode cX12_byLaw 0 = .ok (.iconst 0, 1) := by decide +kernel
theorem dX12_byLaw_1 : decode cX12_byLaw 1 = .ok (.istore_n 1, 1) := by decide +kernel
theorem dX12_byLaw_2 : decode cX12_byLaw 2 = .ok (.aload_n 0, 1) := by decide +kernel
theorem dX12_byLaw_3 : decode cX12_byLaw 3 = .ok (.getfield 58, 3) := by decide +kernel
theorem dX12_byLaw_6 : decode cX12_byLaw 6 = .ok (.iconst 0, 1) := by decide +kernel
theorem dX12_byLaw_7 : decode cX12_byLaw 7 = .ok (.aload_n 0, 1) := by decide +kernel
theorem dX12_byLaw_8 : decode cX12_byLaw 8 = .ok (.getfield 61, 3) := by decide +kernel
theorem dX12_byLaw_11 : decode cX12_byLaw 11 = .ok (.iconst 0, 1) := by decide +kernel
theorem dX12_byLaw_12 : decode cX12_byLaw 12 = .ok (.iaload, 1) := by decide +kernel
theorem dX12_byLaw_13 : decode cX12_byLaw 13 = .ok (.aload_n 0, 1) := by decide +kernel
theorem dX12_byLaw_14 : decode cX12_byLaw 14 = .ok (.getfield 61, 3) := by decide +kernel
theorem dX12_byLaw_17 : decode cX12_byLaw 17 = .ok (.iconst 1, 1) := by decide +kernel
theorem dX12_byLaw_18 : decode cX12_byLaw 18 = .ok (.iaload, 1) := by decide +kernel
theorem dX12_byLaw_19 : decode cX12_byLaw 19 = .ok (.isub, 1) := by decide +kernel
theorem dX12_byLaw_20 : decode cX12_byLaw 20 = .ok (.iconst 2, 1) := by decide +kernel
theorem dX12_byLaw_21 : decode cX12_byLaw 21 = .ok (.aload_n 0, 1) := by decide +kernel
theorem dX12_byLaw_22 : decode cX12_byLaw 22 = .ok (.getfield 61, 3) := by decide +kernel
theorem dX12_byLaw_25 : decode cX12_byLaw 25 = .ok (.iconst 3, 1) := by decide +kernel
theorem dX12_byLaw_26 : decode cX12_byLaw 26 = .ok (.iaload, 1) := by decide +kernel
theorem dX12_byLaw_27 : decode cX12_byLaw 27 = .ok (.imul, 1) := by decide +kernel
theorem dX12_byLaw_28 : decode cX12_byLaw 28 = .ok (.isub, 1) := by decide +kernel
theorem dX12_byLaw_29 : decode cX12_byLaw 29 = .ok (.iconst 5, 1) := by decide +kernel
theorem dX12_byLaw_30 : decode cX12_byLaw 30 = .ok (.aload_n 0, 1) := by decide +kernel
theorem dX12_byLaw_31 : decode cX12_byLaw 31 = .ok (.getfield 61, 3) := by decide +kernel
theorem dX12_byLaw_34 : decode cX12_byLaw 34 = .ok (.iconst 4, 1) := by decide +kernel
theorem dX12_byLaw_35 : decode cX12_byLaw 35 = .ok (.iaload, 1) := by decide +kernel
theorem dX12_byLaw_36 : decode cX12_byLaw 36 = .ok (.imul, 1) := by decide +kernel
theorem dX12_byLaw_37 : decode cX12_byLaw 37 = .ok (.isub, 1) := by decide +kernel
theorem dX12_byLaw_38 : decode cX12_byLaw 38 = .ok (.iastore, 1) := by decide +kernel
theorem dX12_byLaw_39 : decode cX12_byLaw 39 = .ok (.iconst 0, 1) := by decide +kernel
theorem dX12_byLaw_40 : decode cX12_byLaw 40 = .ok (.istore_n 2, 1) := by decide +kernel
theorem dX12_byLaw_41 : decode cX12_byLaw 41 = .ok (.iload_n 2, 1) := by decide +kernel
theorem dX12_byLaw_42 : decode cX12_byLaw 42 = .ok (.aload_n 0, 1) := by decide +kernel
theorem dX12_byLaw_43 : decode cX12_byLaw 43 = .ok (.getfield 202, 3) := by decide +kernel
theorem dX12_byLaw_46 : decode cX12_byLaw 46 = .ok (.if_icmp .ge 104, 3) := by decide +kernel
theorem dX12_byLaw_49 : decode cX12_byLaw 49 = .ok (.aload_n 0, 1) := by decide +kernel
theorem dX12_byLaw_50 : decode cX12_byLaw 50 = .ok (.getfield 46, 3) := by decide +kernel
theorem dX12_byLaw_53 : decode cX12_byLaw 53 = .ok (.iload_n 2, 1) := by decide +kernel
theorem dX12_byLaw_54 : decode cX12_byLaw 54 = .ok (.aaload, 1) := by decide +kernel
theorem dX12_byLaw_55 : decode cX12_byLaw 55 = .ok (.iconst 0, 1) := by decide +kernel
theorem dX12_byLaw_56 : decode cX12_byLaw 56 = .ok (.iaload, 1) := by decide +kernel
theorem dX12_byLaw_57 : decode cX12_byLaw 57 = .ok (.iconst 2, 1) := by decide +kernel
theorem dX12_byLaw_58 : decode cX12_byLaw 58 = .ok (.if_icmp .ge 50, 3) := by decide +kernel
theorem dX12_byLaw_61 : decode cX12_byLaw 61 = .ok (.aload_n 0, 1) := by decide +kernel
theorem dX12_byLaw_62 : decode cX12_byLaw 62 = .ok (.getfield 58, 3) := by decide +kernel
theorem dX12_byLaw_65 : decode cX12_byLaw 65 = .ok (.iload_n 1, 1) := by decide +kernel
theorem dX12_byLaw_66 : decode cX12_byLaw 66 = .ok (.aload_n 0, 1) := by decide +kernel
theorem dX12_byLaw_67 : decode cX12_byLaw 67 = .ok (.getfield 46, 3) := by decide +kernel
theorem dX12_byLaw_70 : decode cX12_byLaw 70 = .ok (.iload_n 2, 1) := by decide +kernel
theorem dX12_byLaw_71 : decode cX12_byLaw 71 = .ok (.aaload, 1) := by decide +kernel
theorem dX12_byLaw_72 : decode cX12_byLaw 72 = .ok (.iconst 0, 1) := by decide +kernel
theorem dX12_byLaw_73 : decode cX12_byLaw 73 = .ok (.iaload, 1) := by decide +kernel
theorem dX12_byLaw_74 : decode cX12_byLaw 74 = .ok (.ifCond .ne 14, 3) := by decide +kernel
theorem dX12_byLaw_77 : decode cX12_byLaw 77 = .ok (.aload_n 0, 1) := by decide +kernel
theorem dX12_byLaw_78 : decode cX12_byLaw 78 = .ok (.getfield 46, 3) := by decide +kernel
theorem dX12_byLaw_81 : decode cX12_byLaw 81 = .ok (.iload_n 2, 1) := by decide +kernel
theorem dX12_byLaw_82 : decode cX12_byLaw 82 = .ok (.aaload, 1) := by decide +kernel
theorem dX12_byLaw_83 : decode cX12_byLaw 83 = .ok (.iconst 1, 1) := by decide +kernel
theorem dX12_byLaw_84 : decode cX12_byLaw 84 = .ok (.iaload, 1) := by decide +kernel
theorem dX12_byLaw_85 : decode cX12_byLaw 85 = .ok (.goto 16, 3) := by decide +kernel
theorem dX12_byLaw_88 : decode cX12_byLaw 88 = .ok (.aload_n 0, 1) := by decide +kernel
theorem dX12_byLaw_89 : decode cX12_byLaw 89 = .ok (.getfield 61, 3) := by decide +kernel
theorem dX12_byLaw_92 : decode cX12_byLaw 92 = .ok (.aload_n 0, 1) := by decide +kernel
theorem dX12_byLaw_93 : decode cX12_byLaw 93 = .ok (.getfield 46, 3) := by decide +kernel
theorem dX12_byLaw_96 : decode cX12_byLaw 96 = .ok (.iload_n 2, 1) := by decide +kernel
theorem dX12_byLaw_97 : decode cX12_byLaw 97 = .ok (.aaload, 1) := by decide +kernel
theorem dX12_byLaw_98 : decode cX12_byLaw 98 = .ok (.iconst 1, 1) := by decide +kernel
theorem dX12_byLaw_99 : decode cX12_byLaw 99 = .ok (.iaload, 1) := by decide +kernel
theorem dX12_byLaw_100 : decode cX12_byLaw 100 = .ok (.iaload, 1) := by decide +kernel
theorem dX12_byLaw_101 : decode cX12_byLaw 101 = .ok (.iastore, 1) := by decide +kernel
theorem dX12_byLaw_102 : decode cX12_byLaw 102 = .ok (.iinc 1 1, 3) := by decide +kernel
theorem dX12_byLaw_105 : decode cX12_byLaw 105 = .ok (.goto 39, 3) := by decide +kernel
theorem dX12_byLaw_108 : decode cX12_byLaw 108 = .ok (.iinc 1 (-1), 3) := by decide +kernel
theorem dX12_byLaw_111 : decode cX12_byLaw 111 = .ok (.aload_n 0, 1) := by decide +kernel
theorem dX12_byLaw_112 : decode cX12_byLaw 112 = .ok (.getfield 58, 3) := by decide +kernel
theorem dX12_byLaw_115 : decode cX12_byLaw 115 = .ok (.iload_n 1, 1) := by decide +kernel
theorem dX12_byLaw_116 : decode cX12_byLaw 116 = .ok (.iconst 1, 1) := by decide +kernel
theorem dX12_byLaw_117 : decode cX12_byLaw 117 = .ok (.isub, 1) := by decide +kernel
theorem dX12_byLaw_118 : decode cX12_byLaw 118 = .ok (.aload_n 0, 1) := by decide +kernel
theorem dX12_byLaw_119 : decode cX12_byLaw 119 = .ok (.getfield 46, 3) := by decide +kernel
theorem dX12_byLaw_122 : decode cX12_byLaw 122 = .ok (.iload_n 2, 1) := by decide +kernel
theorem dX12_byLaw_123 : decode cX12_byLaw 123 = .ok (.aaload, 1) := by decide +kernel
theorem dX12_byLaw_124 : decode cX12_byLaw 124 = .ok (.iconst 0, 1) := by decide +kernel
theorem dX12_byLaw_125 : decode cX12_byLaw 125 = .ok (.iaload, 1) := by decide +kernel
theorem dX12_byLaw_126 : decode cX12_byLaw 126 = .ok (.aload_n 0, 1) := by decide +kernel
theorem dX12_byLaw_127 : decode cX12_byLaw 127 = .ok (.getfield 58, 3) := by decide +kernel
theorem dX12_byLaw_130 : decode cX12_byLaw 130 = .ok (.iload_n 1, 1) := by decide +kernel
theorem dX12_byLaw_131 : decode cX12_byLaw 131 = .ok (.iconst 1, 1) := by decide +kernel
theorem dX12_byLaw_132 : decode cX12_byLaw 132 = .ok (.isub, 1) := by decide +kernel
theorem dX12_byLaw_133 : decode cX12_byLaw 133 = .ok (.iaload, 1) := by decide +kernel
theorem dX12_byLaw_134 : decode cX12_byLaw 134 = .ok (.aload_n 0, 1) := by decide +kernel
theorem dX12_byLaw_135 : decode cX12_byLaw 135 = .ok (.getfield 58, 3) := by decide +kernel
theorem dX12_byLaw_138 : decode cX12_byLaw 138 = .ok (.iload_n 1, 1) := by decide +kernel
theorem dX12_byLaw_139 : decode cX12_byLaw 139 = .ok (.iaload, 1) := by decide +kernel
theorem dX12_byLaw_140 : decode cX12_byLaw 140 = .ok (.invokestatic 251, 3) := by decide +kernel
theorem dX12_byLaw_143 : decode cX12_byLaw 143 = .ok (.iastore, 1) := by decide +kernel
theorem dX12_byLaw_144 : decode cX12_byLaw 144 = .ok (.iinc 2 1, 3) := by decide +kernel
theorem dX12_byLaw_147 : decode cX12_byLaw 147 = .ok (.goto (-106), 3) := by decide +kernel
theorem dX12_byLaw_150 : decode cX12_byLaw 150 = .ok (.bipush 99, 2) := by decide +kernel
theorem dX12_byLaw_152 : decode cX12_byLaw 152 = .ok (.iconst 0, 1) := by decide +kernel
theorem dX12_byLaw_153 : decode cX12_byLaw 153 = .ok (.aload_n 0, 1) := by decide +kernel
theorem dX12_byLaw_154 : decode cX12_byLaw 154 = .ok (.getfield 58, 3) := by decide +kernel
theorem dX12_byLaw_157 : decode cX12_byLaw 157 = .ok (.iconst 0, 1) := by decide +kernel
theorem dX12_byLaw_158 : decode cX12_byLaw 158 = .ok (.iaload, 1) := by decide +kernel
theorem dX12_byLaw_159 : decode cX12_byLaw 159 = .ok (.invokestatic 248, 3) := by decide +kernel
theorem dX12_byLaw_162 : decode cX12_byLaw 162 = .ok (.invokestatic 245, 3) := by decide +kernel
theorem dX12_byLaw_165 : decode cX12_byLaw 165 = .ok (.ireturn, 1) := by decide +kernel
theorem dX12_stepHere_0 : decode cX12_stepHere 0 = .ok (.aload_n 0, 1) := by decide +kernel
theorem dX12_stepHere_1 : decode cX12_stepHere 1 = .ok (.bipush 20, 2) := by decide +kernel
theorem dX12_stepHere_3 : decode cX12_stepHere 3 = .ok (.bipush 21, 2) := by decide +kernel
theorem dX12_stepHere_5 : decode cX12_stepHere 5 = .ok (.bipush 18, 2) := by decide +kernel
theorem dX12_stepHere_7 : decode cX12_stepHere 7 = .ok (.bipush 14, 2) := by decide +kernel
theorem dX12_stepHere_9 : decode cX12_stepHere 9 = .ok (.iconst 0, 1) := by decide +kernel
theorem dX12_stepHere_10 : decode cX12_stepHere 10 = .ok (.iconst 0, 1) := by decide +kernel
theorem dX12_stepHere_11 : decode cX12_stepHere 11 = .ok (.invokevirtual 152, 3) := by decide +kernel
theorem dX12_stepHere_14 : decode cX12_stepHere 14 = .ok (.ifCond .eq 5, 3) := by decide +kernel
theorem dX12_stepHere_17 : decode cX12_stepHere 17 = .ok (.iconst 0, 1) := by decide +kernel
theorem dX12_stepHere_18 : decode cX12_stepHere 18 = .ok (.ireturn, 1) := by decide +kernel
theorem dX12_stepHere_19 : decode cX12_stepHere 19 = .ok (.aload_n 0, 1) := by decide +kernel
theorem dX12_stepHere_20 : decode cX12_stepHere 20 = .ok (.bipush 12, 2) := by decide +kernel
theorem dX12_stepHere_22 : decode cX12_stepHere 22 = .ok (.iconst 1, 1) := by decide +kernel
theorem dX12_stepHere_23 : decode cX12_stepHere 23 = .ok (.bipush 25, 2) := by decide +kernel
theorem dX12_stepHere_25 : decode cX12_stepHere 25 = .ok (.iconst 0, 1) := by decide +kernel
theorem dX12_stepHere_26 : decode cX12_stepHere 26 = .ok (.iconst 0, 1) := by decide +kernel
theorem dX12_stepHere_27 : decode cX12_stepHere 27 = .ok (.iconst 0, 1) := by decide +kernel
theorem dX12_stepHere_28 : decode cX12_stepHere 28 = .ok (.invokevirtual 152, 3) := by decide +kernel
theorem dX12_stepHere_31 : decode cX12_stepHere 31 = .ok (.ifCond .eq 5, 3) := by decide +kernel
theorem dX12_stepHere_34 : decode cX12_stepHere 34 = .ok (.iconst 1, 1) := by decide +kernel
theorem dX12_stepHere_35 : decode cX12_stepHere 35 = .ok (.ireturn, 1) := by decide +kernel
theorem dX12_stepHere_36 : decode cX12_stepHere 36 = .ok (.aload_n 0, 1) := by decide +kernel
theorem dX12_stepHere_37 : decode cX12_stepHere 37 = .ok (.bipush 12, 2) := by decide +kernel
theorem dX12_stepHere_39 : decode cX12_stepHere 39 = .ok (.bipush 9, 2) := by decide +kernel
theorem dX12_stepHere_41 : decode cX12_stepHere 41 = .ok (.bipush 6, 2) := by decide +kernel
theorem dX12_stepHere_43 : decode cX12_stepHere 43 = .ok (.bipush 20, 2) := by decide +kernel
theorem dX12_stepHere_45 : decode cX12_stepHere 45 = .ok (.iconst 0, 1) := by decide +kernel
theorem dX12_stepHere_46 : decode cX12_stepHere 46 = .ok (.iconst 0, 1) := by decide +kernel
theorem dX12_stepHere_47 : decode cX12_stepHere 47 = .ok (.invokevirtual 152, 3) := by decide +kernel
theorem dX12_stepHere_50 : decode cX12_stepHere 50 = .ok (.ifCond .eq 5, 3) := by decide +kernel
theorem dX12_stepHere_53 : decode cX12_stepHere 53 = .ok (.iconst 2, 1) := by decide +kernel
theorem dX12_stepHere_54 : decode cX12_stepHere 54 = .ok (.ireturn, 1) := by decide +kernel
theorem dX12_stepHere_55 : decode cX12_stepHere 55 = .ok (.aload_n 0, 1) := by decide +kernel
theorem dX12_stepHere_56 : decode cX12_stepHere 56 = .ok (.iconst 2, 1) := by decide +kernel
theorem dX12_stepHere_57 : decode cX12_stepHere 57 = .ok (.iconst 5, 1) := by decide +kernel
theorem dX12_stepHere_58 : decode cX12_stepHere 58 = .ok (.bipush 14, 2) := by decide +kernel
theorem dX12_stepHere_60 : decode cX12_stepHere 60 = .ok (.iconst 4, 1) := by decide +kernel
theorem dX12_stepHere_61 : decode cX12_stepHere 61 = .ok (.iconst 0, 1) := by decide +kernel
theorem dX12_stepHere_62 : decode cX12_stepHere 62 = .ok (.iconst 0, 1) := by decide +kernel
theorem dX12_stepHere_63 : decode cX12_stepHere 63 = .ok (.invokevirtual 152, 3) := by decide +kernel
theorem dX12_stepHere_66 : decode cX12_stepHere 66 = .ok (.ifCond .eq 5, 3) := by decide +kernel
theorem dX12_stepHere_69 : decode cX12_stepHere 69 = .ok (.iconst 3, 1) := by decide +kernel
theorem dX12_stepHere_70 : decode cX12_stepHere 70 = .ok (.ireturn, 1) := by decide +kernel
theorem dX12_stepHere_71 : decode cX12_stepHere 71 = .ok (.aload_n 0, 1) := by decide +kernel
theorem dX12_stepHere_72 : decode cX12_stepHere 72 = .ok (.iconst 2, 1) := by decide +kernel
theorem dX12_stepHere_73 : decode cX12_stepHere 73 = .ok (.bipush 21, 2) := by decide +kernel
theorem dX12_stepHere_75 : decode cX12_stepHere 75 = .ok (.bipush 18, 2) := by decide +kernel
theorem dX12_stepHere_77 : decode cX12_stepHere 77 = .ok (.bipush 19, 2) := by decide +kernel
theorem dX12_stepHere_79 : decode cX12_stepHere 79 = .ok (.bipush 20, 2) := by decide +kernel
theorem dX12_stepHere_81 : decode cX12_stepHere 81 = .ok (.iconst 0, 1) := by decide +kernel
theorem dX12_stepHere_82 : decode cX12_stepHere 82 = .ok (.invokevirtual 152, 3) := by decide +kernel
theorem dX12_stepHere_85 : decode cX12_stepHere 85 = .ok (.ifCond .eq 5, 3) := by decide +kernel
theorem dX12_stepHere_88 : decode cX12_stepHere 88 = .ok (.iconst 4, 1) := by decide +kernel
theorem dX12_stepHere_89 : decode cX12_stepHere 89 = .ok (.ireturn, 1) := by decide +kernel
theorem dX12_stepHere_90 : decode cX12_stepHere 90 = .ok (.aload_n 0, 1) := by decide +kernel
theorem dX12_stepHere_91 : decode cX12_stepHere 91 = .ok (.bipush 16, 2) := by decide +kernel
theorem dX12_stepHere_93 : decode cX12_stepHere 93 = .ok (.iconst 1, 1) := by decide +kernel
theorem dX12_stepHere_94 : decode cX12_stepHere 94 = .ok (.bipush 20, 2) := by decide +kernel
theorem dX12_stepHere_96 : decode cX12_stepHere 96 = .ok (.iconst 3, 1) := by decide +kernel
theorem dX12_stepHere_97 : decode cX12_stepHere 97 = .ok (.bipush 8, 2) := by decide +kernel
theorem dX12_stepHere_99 : decode cX12_stepHere 99 = .ok (.iconst 0, 1) := by decide +kernel
theorem dX12_stepHere_100 : decode cX12_stepHere 100 = .ok (.invokevirtual 152, 3) := by decide +kernel
theorem dX12_stepHere_103 : decode cX12_stepHere 103 = .ok (.ifCond .eq 5, 3) := by decide +kernel
theorem dX12_stepHere_106 : decode cX12_stepHere 106 = .ok (.iconst 5, 1) := by decide +kernel
theorem dX12_stepHere_107 : decode cX12_stepHere 107 = .ok (.ireturn, 1) := by decide +kernel
theorem dX12_stepHere_108 : decode cX12_stepHere 108 = .ok (.aload_n 0, 1) := by decide +kernel
theorem dX12_stepHere_109 : decode cX12_stepHere 109 = .ok (.bipush 8, 2) := by decide +kernel
theorem dX12_stepHere_111 : decode cX12_stepHere 111 = .ok (.bipush 15, 2) := by decide +kernel
theorem dX12_stepHere_113 : decode cX12_stepHere 113 = .ok (.bipush 16, 2) := by decide +kernel
theorem dX12_stepHere_115 : decode cX12_stepHere 115 = .ok (.iconst 5, 1) := by decide +kernel
theorem dX12_stepHere_116 : decode cX12_stepHere 116 = .ok (.iconst 0, 1) := by decide +kernel
theorem dX12_stepHere_117 : decode cX12_stepHere 117 = .ok (.iconst 0, 1) := by decide +kernel
theorem dX12_stepHere_118 : decode cX12_stepHere 118 = .ok (.invokevirtual 152, 3) := by decide +kernel
theorem dX12_stepHere_121 : decode cX12_stepHere 121 = .ok (.ifCond .eq 6, 3) := by decide +kernel
theorem dX12_stepHere_124 : decode cX12_stepHere 124 = .ok (.bipush 6, 2) := by decide +kernel
theorem dX12_stepHere_126 : decode cX12_stepHere 126 = .ok (.ireturn, 1) := by decide +kernel
theorem dX12_stepHere_127 : decode cX12_stepHere 127 = .ok (.aload_n 0, 1) := by decide +kernel
theorem dX12_stepHere_128 : decode cX12_stepHere 128 = .ok (.bipush 8, 2) := by decide +kernel
theorem dX12_stepHere_130 : decode cX12_stepHere 130 = .ok (.bipush 15, 2) := by decide +kernel
theorem dX12_stepHere_132 : decode cX12_stepHere 132 = .ok (.bipush 21, 2) := by decide +kernel
theorem dX12_stepHere_134 : decode cX12_stepHere 134 = .ok (.bipush 18, 2) := by decide +kernel
theorem dX12_stepHere_136 : decode cX12_stepHere 136 = .ok (.iconst 0, 1) := by decide +kernel
theorem dX12_stepHere_137 : decode cX12_stepHere 137 = .ok (.iconst 0, 1) := by decide +kernel
theorem dX12_stepHere_138 : decode cX12_stepHere 138 = .ok (.invokevirtual 152, 3) := by decide +kernel
theorem dX12_stepHere_141 : decode cX12_stepHere 141 = .ok (.ifCond .eq 6, 3) := by decide +kernel
theorem dX12_stepHere_144 : decode cX12_stepHere 144 = .ok (.bipush 7, 2) := by decide +kernel
theorem dX12_stepHere_146 : decode cX12_stepHere 146 = .ok (.ireturn, 1) := by decide +kernel
theorem dX12_stepHere_147 : decode cX12_stepHere 147 = .ok (.aload_n 0, 1) := by decide +kernel
theorem dX12_stepHere_148 : decode cX12_stepHere 148 = .ok (.iconst 1, 1) := by decide +kernel
theorem dX12_stepHere_149 : decode cX12_stepHere 149 = .ok (.bipush 7, 2) := by decide +kernel
theorem dX12_stepHere_151 : decode cX12_stepHere 151 = .ok (.iconst 1, 1) := by decide +kernel
theorem dX12_stepHere_152 : decode cX12_stepHere 152 = .ok (.bipush 9, 2) := by decide +kernel
theorem dX12_stepHere_154 : decode cX12_stepHere 154 = .ok (.bipush 14, 2) := by decide +kernel
theorem dX12_stepHere_156 : decode cX12_stepHere 156 = .ok (.iconst 0, 1) := by decide +kernel
theorem dX12_stepHere_157 : decode cX12_stepHere 157 = .ok (.invokevirtual 152, 3) := by decide +kernel
theorem dX12_stepHere_160 : decode cX12_stepHere 160 = .ok (.ifCond .eq 8, 3) := by decide +kernel
theorem dX12_stepHere_163 : decode cX12_stepHere 163 = .ok (.bipush 8, 2) := by decide +kernel
theorem dX12_stepHere_165 : decode cX12_stepHere 165 = .ok (.goto 4, 3) := by decide +kernel
theorem dX12_stepHere_168 : decode cX12_stepHere 168 = .ok (.iconst (-1), 1) := by decide +kernel
theorem dX12_stepHere_169 : decode cX12_stepHere 169 = .ok (.ireturn, 1) := by decide +kernel
theorem dX12_readsStep_0 : decode cX12_readsStep 0 = .ok (.aload_n 0, 1) := by decide +kernel
theorem dX12_readsStep_1 : decode cX12_readsStep 1 = .ok (.invokevirtual 255, 3) := by decide +kernel
theorem dX12_readsStep_4 : decode cX12_readsStep 4 = .ok (.istore_n 1, 1) := by decide +kernel
theorem dX12_readsStep_5 : decode cX12_readsStep 5 = .ok (.iload_n 1, 1) := by decide +kernel
theorem dX12_readsStep_6 : decode cX12_readsStep 6 = .ok (.iconst (-1), 1) := by decide +kernel
theorem dX12_readsStep_7 : decode cX12_readsStep 7 = .ok (.if_icmp .ne 12, 3) := by decide +kernel
theorem dX12_readsStep_10 : decode cX12_readsStep 10 = .ok (.aload_n 0, 1) := by decide +kernel
theorem dX12_readsStep_11 : decode cX12_readsStep 11 = .ok (.iconst 1, 1) := by decide +kernel
theorem dX12_readsStep_12 : decode cX12_readsStep 12 = .ok (.aload_n 0, 1) := by decide +kernel
theorem dX12_readsStep_13 : decode cX12_readsStep 13 = .ok (.getfield 112, 3) := by decide +kernel
theorem dX12_readsStep_16 : decode cX12_readsStep 16 = .ok (.invokevirtual 132, 3) := by decide +kernel
theorem dX12_readsStep_19 : decode cX12_readsStep 19 = .ok (.iload_n 1, 1) := by decide +kernel
theorem dX12_readsStep_20 : decode cX12_readsStep 20 = .ok (.bipush 8, 2) := by decide +kernel
theorem dX12_readsStep_22 : decode cX12_readsStep 22 = .ok (.if_icmp .ne 11, 3) := by decide +kernel
theorem dX12_readsStep_25 : decode cX12_readsStep 25 = .ok (.aload_n 0, 1) := by decide +kernel
theorem dX12_readsStep_26 : decode cX12_readsStep 26 = .ok (.invokevirtual 235, 3) := by decide +kernel
theorem dX12_readsStep_29 : decode cX12_readsStep 29 = .ok (.ifCond .ne 4, 3) := by decide +kernel
theorem dX12_readsStep_32 : decode cX12_readsStep 32 = .ok (.return_, 1) := by decide +kernel
theorem dX12_readsStep_33 : decode cX12_readsStep 33 = .ok (.aload_n 0, 1) := by decide +kernel
theorem dX12_readsStep_34 : decode cX12_readsStep 34 = .ok (.getfield 119, 3) := by decide +kernel
theorem dX12_readsStep_37 : decode cX12_readsStep 37 = .ok (.ifCond .eq 4, 3) := by decide +kernel
theorem dX12_readsStep_40 : decode cX12_readsStep 40 = .ok (.return_, 1) := by decide +kernel
theorem dX12_readsStep_41 : decode cX12_readsStep 41 = .ok (.aload_n 0, 1) := by decide +kernel
theorem dX12_readsStep_42 : decode cX12_readsStep 42 = .ok (.invokevirtual 156, 3) := by decide +kernel
theorem dX12_readsStep_45 : decode cX12_readsStep 45 = .ok (.aload_n 0, 1) := by decide +kernel
theorem dX12_readsStep_46 : decode cX12_readsStep 46 = .ok (.getfield 64, 3) := by decide +kernel
theorem dX12_readsStep_49 : decode cX12_readsStep 49 = .ok (.aload_n 0, 1) := by decide +kernel
theorem dX12_readsStep_50 : decode cX12_readsStep 50 = .ok (.getfield 258, 3) := by decide +kernel
theorem dX12_readsStep_53 : decode cX12_readsStep 53 = .ok (.aaload, 1) := by decide +kernel
theorem dX12_readsStep_54 : decode cX12_readsStep 54 = .ok (.astore_n 2, 1) := by decide +kernel
theorem dX12_readsStep_55 : decode cX12_readsStep 55 = .ok (.aload_n 0, 1) := by decide +kernel
theorem dX12_readsStep_56 : decode cX12_readsStep 56 = .ok (.dup, 1) := by decide +kernel
theorem dX12_readsStep_57 : decode cX12_readsStep 57 = .ok (.getfield 258, 3) := by decide +kernel
theorem dX12_readsStep_60 : decode cX12_readsStep 60 = .ok (.iconst 1, 1) := by decide +kernel
theorem dX12_readsStep_61 : decode cX12_readsStep 61 = .ok (.iadd, 1) := by decide +kernel
theorem dX12_readsStep_62 : decode cX12_readsStep 62 = .ok (.putfield 258, 3) := by decide +kernel
theorem dX12_readsStep_65 : decode cX12_readsStep 65 = .ok (.aload_n 2, 1) := by decide +kernel
theorem dX12_readsStep_66 : decode cX12_readsStep 66 = .ok (.iconst 0, 1) := by decide +kernel
theorem dX12_readsStep_67 : decode cX12_readsStep 67 = .ok (.iload_n 1, 1) := by decide +kernel
theorem dX12_readsStep_68 : decode cX12_readsStep 68 = .ok (.iastore, 1) := by decide +kernel
theorem dX12_readsStep_69 : decode cX12_readsStep 69 = .ok (.iload_n 1, 1) := by decide +kernel
theorem dX12_readsStep_70 : decode cX12_readsStep 70 = .ok (.bipush 6, 2) := by decide +kernel
theorem dX12_readsStep_72 : decode cX12_readsStep 72 = .ok (.if_icmp .ge 24, 3) := by decide +kernel
theorem dX12_readsStep_75 : decode cX12_readsStep 75 = .ok (.iload_n 1, 1) := by decide +kernel
theorem dX12_readsStep_76 : decode cX12_readsStep 76 = .ok (.iconst 2, 1) := by decide +kernel
theorem dX12_readsStep_77 : decode cX12_readsStep 77 = .ok (.if_icmp .eq 19, 3) := by decide +kernel
theorem dX12_readsStep_80 : decode cX12_readsStep 80 = .ok (.aload_n 2, 1) := by decide +kernel
theorem dX12_readsStep_81 : decode cX12_readsStep 81 = .ok (.iconst 1, 1) := by decide +kernel
theorem dX12_readsStep_82 : decode cX12_readsStep 82 = .ok (.aload_n 0, 1) := by decide +kernel
theorem dX12_readsStep_83 : decode cX12_readsStep 83 = .ok (.iconst 0, 1) := by decide +kernel
theorem dX12_readsStep_84 : decode cX12_readsStep 84 = .ok (.aload_n 0, 1) := by decide +kernel
theorem dX12_readsStep_85 : decode cX12_readsStep 85 = .ok (.getfield 23, 3) := by decide +kernel
theorem dX12_readsStep_88 : decode cX12_readsStep 88 = .ok (.iconst 0, 1) := by decide +kernel
theorem dX12_readsStep_89 : decode cX12_readsStep 89 = .ok (.iaload, 1) := by decide +kernel
theorem dX12_readsStep_90 : decode cX12_readsStep 90 = .ok (.iconst 1, 1) := by decide +kernel
theorem dX12_readsStep_91 : decode cX12_readsStep 91 = .ok (.isub, 1) := by decide +kernel
theorem dX12_readsStep_92 : decode cX12_readsStep 92 = .ok (.invokevirtual 165, 3) := by decide +kernel
theorem dX12_readsStep_95 : decode cX12_readsStep 95 = .ok (.iastore, 1) := by decide +kernel
theorem dX12_readsStep_96 : decode cX12_readsStep 96 = .ok (.iload_n 1, 1) := by decide +kernel
theorem dX12_readsStep_97 : decode cX12_readsStep 97 = .ok (.iconst 3, 1) := by decide +kernel
theorem dX12_readsStep_98 : decode cX12_readsStep 98 = .ok (.if_icmp .ne 13, 3) := by decide +kernel
theorem dX12_readsStep_101 : decode cX12_readsStep 101 = .ok (.aload_n 2, 1) := by decide +kernel
theorem dX12_readsStep_102 : decode cX12_readsStep 102 = .ok (.iconst 2, 1) := by decide +kernel
theorem dX12_readsStep_103 : decode cX12_readsStep 103 = .ok (.aload_n 0, 1) := by decide +kernel
theorem dX12_readsStep_104 : decode cX12_readsStep 104 = .ok (.iconst 0, 1) := by decide +kernel
theorem dX12_readsStep_105 : decode cX12_readsStep 105 = .ok (.bipush 9, 2) := by decide +kernel
theorem dX12_readsStep_107 : decode cX12_readsStep 107 = .ok (.invokevirtual 165, 3) := by decide +kernel
theorem dX12_readsStep_110 : decode cX12_readsStep 110 = .ok (.iastore, 1) := by decide +kernel
theorem dX12_readsStep_111 : decode cX12_readsStep 111 = .ok (.iload_n 1, 1) := by decide +kernel
theorem dX12_readsStep_112 : decode cX12_readsStep 112 = .ok (.bipush 6, 2) := by decide +kernel
theorem dX12_readsStep_114 : decode cX12_readsStep 114 = .ok (.if_icmp .ne 13, 3) := by decide +kernel
theorem dX12_readsStep_117 : decode cX12_readsStep 117 = .ok (.aload_n 2, 1) := by decide +kernel
theorem dX12_readsStep_118 : decode cX12_readsStep 118 = .ok (.iconst 1, 1) := by decide +kernel
theorem dX12_readsStep_119 : decode cX12_readsStep 119 = .ok (.aload_n 0, 1) := by decide +kernel
theorem dX12_readsStep_120 : decode cX12_readsStep 120 = .ok (.iconst 0, 1) := by decide +kernel
theorem dX12_readsStep_121 : decode cX12_readsStep 121 = .ok (.bipush 99, 2) := by decide +kernel
theorem dX12_readsStep_123 : decode cX12_readsStep 123 = .ok (.invokevirtual 165, 3) := by decide +kernel
theorem dX12_readsStep_126 : decode cX12_readsStep 126 = .ok (.iastore, 1) := by decide +kernel
theorem dX12_readsStep_127 : decode cX12_readsStep 127 = .ok (.iload_n 1, 1) := by decide +kernel
theorem dX12_readsStep_128 : decode cX12_readsStep 128 = .ok (.bipush 8, 2) := by decide +kernel
theorem dX12_readsStep_130 : decode cX12_readsStep 130 = .ok (.if_icmp .ne 70, 3) := by decide +kernel
theorem dX12_readsStep_133 : decode cX12_readsStep 133 = .ok (.aload_n 2, 1) := by decide +kernel
theorem dX12_readsStep_134 : decode cX12_readsStep 134 = .ok (.iconst 1, 1) := by decide +kernel
theorem dX12_readsStep_135 : decode cX12_readsStep 135 = .ok (.aload_n 0, 1) := by decide +kernel
theorem dX12_readsStep_136 : decode cX12_readsStep 136 = .ok (.iconst 0, 1) := by decide +kernel
theorem dX12_readsStep_137 : decode cX12_readsStep 137 = .ok (.bipush 30, 2) := by decide +kernel
theorem dX12_readsStep_139 : decode cX12_readsStep 139 = .ok (.invokevirtual 165, 3) := by decide +kernel
theorem dX12_readsStep_142 : decode cX12_readsStep 142 = .ok (.iastore, 1) := by decide +kernel
theorem dX12_readsStep_143 : decode cX12_readsStep 143 = .ok (.aload_n 0, 1) := by decide +kernel
theorem dX12_readsStep_144 : decode cX12_readsStep 144 = .ok (.bipush 91, 2) := by decide +kernel
theorem dX12_readsStep_146 : decode cX12_readsStep 146 = .ok (.invokevirtual 178, 3) := by decide +kernel
theorem dX12_readsStep_149 : decode cX12_readsStep 149 = .ok (.aload_n 0, 1) := by decide +kernel
theorem dX12_readsStep_150 : decode cX12_readsStep 150 = .ok (.invokevirtual 125, 3) := by decide +kernel
theorem dX12_readsStep_153 : decode cX12_readsStep 153 = .ok (.aload_n 0, 1) := by decide +kernel
theorem dX12_readsStep_154 : decode cX12_readsStep 154 = .ok (.getfield 119, 3) := by decide +kernel
theorem dX12_readsStep_157 : decode cX12_readsStep 157 = .ok (.ifCond .ne 27, 3) := by decide +kernel
theorem dX12_readsStep_160 : decode cX12_readsStep 160 = .ok (.aload_n 0, 1) := by decide +kernel
theorem dX12_readsStep_161 : decode cX12_readsStep 161 = .ok (.aload_n 0, 1) := by decide +kernel
theorem dX12_readsStep_162 : decode cX12_readsStep 162 = .ok (.getfield 112, 3) := by decide +kernel
theorem dX12_readsStep_165 : decode cX12_readsStep 165 = .ok (.invokevirtual 115, 3) := by decide +kernel
theorem dX12_readsStep_168 : decode cX12_readsStep 168 = .ok (.bipush 93, 2) := by decide +kernel
theorem dX12_readsStep_170 : decode cX12_readsStep 170 = .ok (.if_icmp .eq 14, 3) := by decide +kernel
theorem dX12_readsStep_173 : decode cX12_readsStep 173 = .ok (.aload_n 0, 1) := by decide +kernel
theorem dX12_readsStep_174 : decode cX12_readsStep 174 = .ok (.invokevirtual 261, 3) := by decide +kernel
theorem dX12_readsStep_177 : decode cX12_readsStep 177 = .ok (.aload_n 0, 1) := by decide +kernel
theorem dX12_readsStep_178 : decode cX12_readsStep 178 = .ok (.invokevirtual 125, 3) := by decide +kernel
theorem dX12_readsStep_181 : decode cX12_readsStep 181 = .ok (.goto (-28), 3) := by decide +kernel
theorem dX12_readsStep_184 : decode cX12_readsStep 184 = .ok (.aload_n 0, 1) := by decide +kernel
theorem dX12_readsStep_185 : decode cX12_readsStep 185 = .ok (.bipush 93, 2) := by decide +kernel
theorem dX12_readsStep_187 : decode cX12_readsStep 187 = .ok (.invokevirtual 178, 3) := by decide +kernel
theorem dX12_readsStep_190 : decode cX12_readsStep 190 = .ok (.aload_n 0, 1) := by decide +kernel
theorem dX12_readsStep_191 : decode cX12_readsStep 191 = .ok (.dup, 1) := by decide +kernel
theorem dX12_readsStep_192 : decode cX12_readsStep 192 = .ok (.getfield 162, 3) := by decide +kernel
theorem dX12_readsStep_195 : decode cX12_readsStep 195 = .ok (.iconst 1, 1) := by decide +kernel
theorem dX12_readsStep_196 : decode cX12_readsStep 196 = .ok (.isub, 1) := by decide +kernel
theorem dX12_readsStep_197 : decode cX12_readsStep 197 = .ok (.putfield 162, 3) := by decide +kernel
theorem dX12_readsStep_200 : decode cX12_readsStep 200 = .ok (.aload_n 2, 1) := by decide +kernel
theorem dX12_readsStep_201 : decode cX12_readsStep 201 = .ok (.iconst 3, 1) := by decide +kernel
theorem dX12_readsStep_202 : decode cX12_readsStep 202 = .ok (.aload_n 0, 1) := by decide +kernel
theorem dX12_readsStep_203 : decode cX12_readsStep 203 = .ok (.getfield 258, 3) := by decide +kernel
theorem dX12_readsStep_206 : decode cX12_readsStep 206 = .ok (.iastore, 1) := by decide +kernel
theorem dX12_readsStep_207 : decode cX12_readsStep 207 = .ok (.aload_n 0, 1) := by decide +kernel
theorem dX12_readsStep_208 : decode cX12_readsStep 208 = .ok (.bipush 59, 2) := by decide +kernel
theorem dX12_readsStep_210 : decode cX12_readsStep 210 = .ok (.invokevirtual 178, 3) := by decide +kernel
theorem dX12_readsStep_213 : decode cX12_readsStep 213 = .ok (.return_, 1) := by decide +kernel
theorem dX12_book_0 : decode cX12_book 0 = .ok (.aload_n 0, 1) := by decide +kernel
theorem dX12_book_1 : decode cX12_book 1 = .ok (.iconst 0, 1) := by decide +kernel
theorem dX12_book_2 : decode cX12_book 2 = .ok (.putfield 103, 3) := by decide +kernel
theorem dX12_book_5 : decode cX12_book 5 = .ok (.aload_n 0, 1) := by decide +kernel
theorem dX12_book_6 : decode cX12_book 6 = .ok (.iload_n 1, 1) := by decide +kernel
theorem dX12_book_7 : decode cX12_book 7 = .ok (.iconst 0, 1) := by decide +kernel
theorem dX12_book_8 : decode cX12_book 8 = .ok (.aload_n 0, 1) := by decide +kernel
theorem dX12_book_9 : decode cX12_book 9 = .ok (.getfield 106, 3) := by decide +kernel
theorem dX12_book_12 : decode cX12_book 12 = .ok (.invokestatic 137, 3) := by decide +kernel
theorem dX12_book_15 : decode cX12_book 15 = .ok (.ifCond .eq 9, 3) := by decide +kernel
theorem dX12_book_18 : decode cX12_book 18 = .ok (.iload_n 1, 1) := by decide +kernel
theorem dX12_book_19 : decode cX12_book 19 = .ok (.bipush 60, 2) := by decide +kernel
theorem dX12_book_21 : decode cX12_book 21 = .ok (.if_icmp .le 7, 3) := by decide +kernel
theorem dX12_book_24 : decode cX12_book 24 = .ok (.iconst 1, 1) := by decide +kernel
theorem dX12_book_25 : decode cX12_book 25 = .ok (.goto 4, 3) := by decide +kernel
theorem dX12_book_28 : decode cX12_book 28 = .ok (.iconst 0, 1) := by decide +kernel
theorem dX12_book_29 : decode cX12_book 29 = .ok (.iconst 1, 1) := by decide +kernel
theorem dX12_book_30 : decode cX12_book 30 = .ok (.iconst 1, 1) := by decide +kernel
theorem dX12_book_31 : decode cX12_book 31 = .ok (.invokevirtual 182, 3) := by decide +kernel
theorem dX12_book_34 : decode cX12_book 34 = .ok (.ifCond .eq 5, 3) := by decide +kernel
theorem dX12_book_37 : decode cX12_book 37 = .ok (.iconst 0, 1) := by decide +kernel
theorem dX12_book_38 : decode cX12_book 38 = .ok (.ireturn, 1) := by decide +kernel
theorem dX12_book_39 : decode cX12_book 39 = .ok (.aload_n 0, 1) := by decide +kernel
theorem dX12_book_40 : decode cX12_book 40 = .ok (.iload_n 1, 1) := by decide +kernel
theorem dX12_book_41 : decode cX12_book 41 = .ok (.invokevirtual 186, 3) := by decide +kernel
theorem dX12_book_44 : decode cX12_book 44 = .ok (.iconst 0, 1) := by decide +kernel
theorem dX12_book_45 : decode cX12_book 45 = .ok (.istore_n 2, 1) := by decide +kernel
theorem dX12_book_46 : decode cX12_book 46 = .ok (.aload_n 0, 1) := by decide +kernel
theorem dX12_book_47 : decode cX12_book 47 = .ok (.getfield 119, 3) := by decide +kernel
theorem dX12_book_50 : decode cX12_book 50 = .ok (.ifCond .ne 140, 3) := by decide +kernel
theorem dX12_book_53 : decode cX12_book 53 = .ok (.aload_n 0, 1) := by decide +kernel
theorem dX12_book_54 : decode cX12_book 54 = .ok (.getfield 112, 3) := by decide +kernel
theorem dX12_book_57 : decode cX12_book 57 = .ok (.aload_n 0, 1) := by decide +kernel
theorem dX12_book_58 : decode cX12_book 58 = .ok (.getfield 109, 3) := by decide +kernel
theorem dX12_book_61 : decode cX12_book 61 = .ok (.if_icmp .ge 129, 3) := by decide +kernel
theorem dX12_book_64 : decode cX12_book 64 = .ok (.aload_n 0, 1) := by decide +kernel
theorem dX12_book_65 : decode cX12_book 65 = .ok (.getfield 112, 3) := by decide +kernel
theorem dX12_book_68 : decode cX12_book 68 = .ok (.istore_n 3, 1) := by decide +kernel
theorem dX12_book_69 : decode cX12_book 69 = .ok (.aload_n 0, 1) := by decide +kernel
theorem dX12_book_70 : decode cX12_book 70 = .ok (.iconst 0, 1) := by decide +kernel
theorem dX12_book_71 : decode cX12_book 71 = .ok (.iconst 5, 1) := by decide +kernel
theorem dX12_book_72 : decode cX12_book 72 = .ok (.invokevirtual 165, 3) := by decide +kernel
theorem dX12_book_75 : decode cX12_book 75 = .ok (.istore 4, 2) := by decide +kernel
theorem dX12_book_77 : decode cX12_book 77 = .ok (.iconst 0, 1) := by decide +kernel
theorem dX12_book_78 : decode cX12_book 78 = .ok (.istore 5, 2) := by decide +kernel
theorem dX12_book_80 : decode cX12_book 80 = .ok (.iload 5, 2) := by decide +kernel
theorem dX12_book_82 : decode cX12_book 82 = .ok (.iload_n 2, 1) := by decide +kernel
theorem dX12_book_83 : decode cX12_book 83 = .ok (.if_icmp .ge 36, 3) := by decide +kernel
theorem dX12_book_86 : decode cX12_book 86 = .ok (.aload_n 0, 1) := by decide +kernel
theorem dX12_book_87 : decode cX12_book 87 = .ok (.getfield 119, 3) := by decide +kernel
theorem dX12_book_90 : decode cX12_book 90 = .ok (.ifCond .ne 23, 3) := by decide +kernel
theorem dX12_book_93 : decode cX12_book 93 = .ok (.aload_n 0, 1) := by decide +kernel
theorem dX12_book_94 : decode cX12_book 94 = .ok (.getfield 55, 3) := by decide +kernel
theorem dX12_book_97 : decode cX12_book 97 = .ok (.iload 5, 2) := by decide +kernel
theorem dX12_book_99 : decode cX12_book 99 = .ok (.aaload, 1) := by decide +kernel
theorem dX12_book_100 : decode cX12_book 100 = .ok (.iconst 0, 1) := by decide +kernel
theorem dX12_book_101 : decode cX12_book 101 = .ok (.iaload, 1) := by decide +kernel
theorem dX12_book_102 : decode cX12_book 102 = .ok (.iload 4, 2) := by decide +kernel
theorem dX12_book_104 : decode cX12_book 104 = .ok (.if_icmp .ne 9, 3) := by decide +kernel
theorem dX12_book_107 : decode cX12_book 107 = .ok (.aload_n 0, 1) := by decide +kernel
theorem dX12_book_108 : decode cX12_book 108 = .ok (.iconst 2, 1) := by decide +kernel
theorem dX12_book_109 : decode cX12_book 109 = .ok (.iload_n 3, 1) := by decide +kernel
theorem dX12_book_110 : decode cX12_book 110 = .ok (.invokevirtual 132, 3) := by decide +kernel
theorem dX12_book_113 : decode cX12_book 113 = .ok (.iinc 5 1, 3) := by decide +kernel
theorem dX12_book_116 : decode cX12_book 116 = .ok (.goto (-36), 3) := by decide +kernel
theorem dX12_book_119 : decode cX12_book 119 = .ok (.aload_n 0, 1) := by decide +kernel
theorem dX12_book_120 : decode cX12_book 120 = .ok (.getfield 119, 3) := by decide +kernel
theorem dX12_book_123 : decode cX12_book 123 = .ok (.ifCond .ne 15, 3) := by decide +kernel
theorem dX12_book_126 : decode cX12_book 126 = .ok (.iload_n 2, 1) := by decide +kernel
theorem dX12_book_127 : decode cX12_book 127 = .ok (.bipush 6, 2) := by decide +kernel
theorem dX12_book_129 : decode cX12_book 129 = .ok (.if_icmp .ne 9, 3) := by decide +kernel
theorem dX12_book_132 : decode cX12_book 132 = .ok (.aload_n 0, 1) := by decide +kernel
theorem dX12_book_133 : decode cX12_book 133 = .ok (.iconst 3, 1) := by decide +kernel
theorem dX12_book_134 : decode cX12_book 134 = .ok (.iload_n 3, 1) := by decide +kernel
theorem dX12_book_135 : decode cX12_book 135 = .ok (.invokevirtual 132, 3) := by decide +kernel
theorem dX12_book_138 : decode cX12_book 138 = .ok (.aload_n 0, 1) := by decide +kernel
theorem dX12_book_139 : decode cX12_book 139 = .ok (.iconst 0, 1) := by decide +kernel
theorem dX12_book_140 : decode cX12_book 140 = .ok (.bipush 99, 2) := by decide +kernel
theorem dX12_book_142 : decode cX12_book 142 = .ok (.invokevirtual 165, 3) := by decide +kernel
theorem dX12_book_145 : decode cX12_book 145 = .ok (.istore 5, 2) := by decide +kernel
theorem dX12_book_147 : decode cX12_book 147 = .ok (.aload_n 0, 1) := by decide +kernel
theorem dX12_book_148 : decode cX12_book 148 = .ok (.bipush 59, 2) := by decide +kernel
theorem dX12_book_150 : decode cX12_book 150 = .ok (.invokevirtual 178, 3) := by decide +kernel
theorem dX12_book_153 : decode cX12_book 153 = .ok (.aload_n 0, 1) := by decide +kernel
theorem dX12_book_154 : decode cX12_book 154 = .ok (.getfield 119, 3) := by decide +kernel
theorem dX12_book_157 : decode cX12_book 157 = .ok (.ifCond .ne 26, 3) := by decide +kernel
theorem dX12_book_160 : decode cX12_book 160 = .ok (.aload_n 0, 1) := by decide +kernel
theorem dX12_book_161 : decode cX12_book 161 = .ok (.getfield 55, 3) := by decide +kernel
theorem dX12_book_164 : decode cX12_book 164 = .ok (.iload_n 2, 1) := by decide +kernel
theorem dX12_book_165 : decode cX12_book 165 = .ok (.aaload, 1) := by decide +kernel
theorem dX12_book_166 : decode cX12_book 166 = .ok (.iconst 0, 1) := by decide +kernel
theorem dX12_book_167 : decode cX12_book 167 = .ok (.iload 4, 2) := by decide +kernel
theorem dX12_book_169 : decode cX12_book 169 = .ok (.iastore, 1) := by decide +kernel
theorem dX12_book_170 : decode cX12_book 170 = .ok (.aload_n 0, 1) := by decide +kernel
theorem dX12_book_171 : decode cX12_book 171 = .ok (.getfield 55, 3) := by decide +kernel
theorem dX12_book_174 : decode cX12_book 174 = .ok (.iload_n 2, 1) := by decide +kernel
theorem dX12_book_175 : decode cX12_book 175 = .ok (.aaload, 1) := by decide +kernel
theorem dX12_book_176 : decode cX12_book 176 = .ok (.iconst 1, 1) := by decide +kernel
theorem dX12_book_177 : decode cX12_book 177 = .ok (.iload 5, 2) := by decide +kernel
theorem dX12_book_179 : decode cX12_book 179 = .ok (.iastore, 1) := by decide +kernel
theorem dX12_book_180 : decode cX12_book 180 = .ok (.iinc 2 1, 3) := by decide +kernel
theorem dX12_book_183 : decode cX12_book 183 = .ok (.aload_n 0, 1) := by decide +kernel
theorem dX12_book_184 : decode cX12_book 184 = .ok (.invokevirtual 125, 3) := by decide +kernel
theorem dX12_book_187 : decode cX12_book 187 = .ok (.goto (-141), 3) := by decide +kernel
theorem dX12_book_190 : decode cX12_book 190 = .ok (.aload_n 0, 1) := by decide +kernel
theorem dX12_book_191 : decode cX12_book 191 = .ok (.getfield 119, 3) := by decide +kernel
theorem dX12_book_194 : decode cX12_book 194 = .ok (.ifCond .eq 8, 3) := by decide +kernel
theorem dX12_book_197 : decode cX12_book 197 = .ok (.aload_n 0, 1) := by decide +kernel
theorem dX12_book_198 : decode cX12_book 198 = .ok (.invokevirtual 192, 3) := by decide +kernel
theorem dX12_book_201 : decode cX12_book 201 = .ok (.ireturn, 1) := by decide +kernel
theorem dX12_book_202 : decode cX12_book 202 = .ok (.aload_n 0, 1) := by decide +kernel
theorem dX12_book_203 : decode cX12_book 203 = .ok (.iconst (-1), 1) := by decide +kernel
theorem dX12_book_204 : decode cX12_book 204 = .ok (.putfield 9, 3) := by decide +kernel
theorem dX12_book_207 : decode cX12_book 207 = .ok (.aload_n 0, 1) := by decide +kernel
theorem dX12_book_208 : decode cX12_book 208 = .ok (.iload_n 2, 1) := by decide +kernel
theorem dX12_book_209 : decode cX12_book 209 = .ok (.putfield 205, 3) := by decide +kernel
theorem dX12_book_212 : decode cX12_book 212 = .ok (.aload_n 0, 1) := by decide +kernel
theorem dX12_book_213 : decode cX12_book 213 = .ok (.getfield 55, 3) := by decide +kernel
theorem dX12_book_216 : decode cX12_book 216 = .ok (.aload_n 0, 1) := by decide +kernel
theorem dX12_book_217 : decode cX12_book 217 = .ok (.getfield 52, 3) := by decide +kernel
theorem dX12_book_220 : decode cX12_book 220 = .ok (.iload_n 2, 1) := by decide +kernel
theorem dX12_book_221 : decode cX12_book 221 = .ok (.invokestatic 195, 3) := by decide +kernel
theorem dX12_book_224 : decode cX12_book 224 = .ok (.iload_n 2, 1) := by decide +kernel
theorem dX12_book_225 : decode cX12_book 225 = .ok (.ireturn, 1) := by decide +kernel
theorem dX12_fault_0 : decode cX12_fault 0 = .ok (.aload_n 0, 1) := by decide +kernel
theorem dX12_fault_1 : decode cX12_fault 1 = .ok (.iconst 0, 1) := by decide +kernel
theorem dX12_fault_2 : decode cX12_fault 2 = .ok (.putfield 103, 3) := by decide +kernel
theorem dX12_fault_5 : decode cX12_fault 5 = .ok (.aload_n 0, 1) := by decide +kernel
theorem dX12_fault_6 : decode cX12_fault 6 = .ok (.getfield 9, 3) := by decide +kernel
theorem dX12_fault_9 : decode cX12_fault 9 = .ok (.ireturn, 1) := by decide +kernel
theorem dX12_isJoined_0 : decode cX12_isJoined 0 = .ok (.iconst 0, 1) := by decide +kernel
theorem dX12_isJoined_1 : decode cX12_isJoined 1 = .ok (.istore_n 3, 1) := by decide +kernel
theorem dX12_isJoined_2 : decode cX12_isJoined 2 = .ok (.iload_n 3, 1) := by decide +kernel
theorem dX12_isJoined_3 : decode cX12_isJoined 3 = .ok (.aload_n 0, 1) := by decide +kernel
theorem dX12_isJoined_4 : decode cX12_isJoined 4 = .ok (.getfield 199, 3) := by decide +kernel
theorem dX12_isJoined_7 : decode cX12_isJoined 7 = .ok (.if_icmp .ge 59, 3) := by decide +kernel
theorem dX12_isJoined_10 : decode cX12_isJoined 10 = .ok (.aload_n 0, 1) := by decide +kernel
theorem dX12_isJoined_11 : decode cX12_isJoined 11 = .ok (.getfield 37, 3) := by decide +kernel
theorem dX12_isJoined_14 : decode cX12_isJoined 14 = .ok (.iload_n 3, 1) := by decide +kernel
theorem dX12_isJoined_15 : decode cX12_isJoined 15 = .ok (.aaload, 1) := by decide +kernel
theorem dX12_isJoined_16 : decode cX12_isJoined 16 = .ok (.iconst 0, 1) := by decide +kernel
theorem dX12_isJoined_17 : decode cX12_isJoined 17 = .ok (.iaload, 1) := by decide +kernel
theorem dX12_isJoined_18 : decode cX12_isJoined 18 = .ok (.iload_n 1, 1) := by decide +kernel
theorem dX12_isJoined_19 : decode cX12_isJoined 19 = .ok (.if_icmp .ne 15, 3) := by decide +kernel
theorem dX12_isJoined_22 : decode cX12_isJoined 22 = .ok (.aload_n 0, 1) := by decide +kernel
theorem dX12_isJoined_23 : decode cX12_isJoined 23 = .ok (.getfield 37, 3) := by decide +kernel
theorem dX12_isJoined_26 : decode cX12_isJoined 26 = .ok (.iload_n 3, 1) := by decide +kernel
theorem dX12_isJoined_27 : decode cX12_isJoined 27 = .ok (.aaload, 1) := by decide +kernel
theorem dX12_isJoined_28 : decode cX12_isJoined 28 = .ok (.iconst 1, 1) := by decide +kernel
theorem dX12_isJoined_29 : decode cX12_isJoined 29 = .ok (.iaload, 1) := by decide +kernel
theorem dX12_isJoined_30 : decode cX12_isJoined 30 = .ok (.iload_n 2, 1) := by decide +kernel
theorem dX12_isJoined_31 : decode cX12_isJoined 31 = .ok (.if_icmp .eq 27, 3) := by decide +kernel
theorem dX12_isJoined_34 : decode cX12_isJoined 34 = .ok (.aload_n 0, 1) := by decide +kernel
theorem dX12_isJoined_35 : decode cX12_isJoined 35 = .ok (.getfield 37, 3) := by decide +kernel
theorem dX12_isJoined_38 : decode cX12_isJoined 38 = .ok (.iload_n 3, 1) := by decide +kernel
theorem dX12_isJoined_39 : decode cX12_isJoined 39 = .ok (.aaload, 1) := by decide +kernel
theorem dX12_isJoined_40 : decode cX12_isJoined 40 = .ok (.iconst 0, 1) := by decide +kernel
theorem dX12_isJoined_41 : decode cX12_isJoined 41 = .ok (.iaload, 1) := by decide +kernel
theorem dX12_isJoined_42 : decode cX12_isJoined 42 = .ok (.iload_n 2, 1) := by decide +kernel
theorem dX12_isJoined_43 : decode cX12_isJoined 43 = .ok (.if_icmp .ne 17, 3) := by decide +kernel
theorem dX12_isJoined_46 : decode cX12_isJoined 46 = .ok (.aload_n 0, 1) := by decide +kernel
theorem dX12_isJoined_47 : decode cX12_isJoined 47 = .ok (.getfield 37, 3) := by decide +kernel
theorem dX12_isJoined_50 : decode cX12_isJoined 50 = .ok (.iload_n 3, 1) := by decide +kernel
theorem dX12_isJoined_51 : decode cX12_isJoined 51 = .ok (.aaload, 1) := by decide +kernel
theorem dX12_isJoined_52 : decode cX12_isJoined 52 = .ok (.iconst 1, 1) := by decide +kernel
theorem dX12_isJoined_53 : decode cX12_isJoined 53 = .ok (.iaload, 1) := by decide +kernel
theorem dX12_isJoined_54 : decode cX12_isJoined 54 = .ok (.iload_n 1, 1) := by decide +kernel
theorem dX12_isJoined_55 : decode cX12_isJoined 55 = .ok (.if_icmp .ne 5, 3) := by decide +kernel
theorem dX12_isJoined_58 : decode cX12_isJoined 58 = .ok (.iconst 1, 1) := by decide +kernel
theorem dX12_isJoined_59 : decode cX12_isJoined 59 = .ok (.ireturn, 1) := by decide +kernel
theorem dX12_isJoined_60 : decode cX12_isJoined 60 = .ok (.iinc 3 1, 3) := by decide +kernel
theorem dX12_isJoined_63 : decode cX12_isJoined 63 = .ok (.goto (-61), 3) := by decide +kernel
theorem dX12_isJoined_66 : decode cX12_isJoined 66 = .ok (.iload_n 1, 1) := by decide +kernel
theorem dX12_isJoined_67 : decode cX12_isJoined 67 = .ok (.iload_n 2, 1) := by decide +kernel
theorem dX12_isJoined_68 : decode cX12_isJoined 68 = .ok (.if_icmp .ne 7, 3) := by decide +kernel
theorem dX12_isJoined_71 : decode cX12_isJoined 71 = .ok (.iconst 1, 1) := by decide +kernel
theorem dX12_isJoined_72 : decode cX12_isJoined 72 = .ok (.goto 4, 3) := by decide +kernel
theorem dX12_isJoined_75 : decode cX12_isJoined 75 = .ok (.iconst 0, 1) := by decide +kernel
theorem dX12_isJoined_76 : decode cX12_isJoined 76 = .ok (.ireturn, 1) := by decide +kernel
theorem dX12_headOf_0 : decode cX12_headOf 0 = .ok (.aload_n 0, 1) := by decide +kernel
theorem dX12_headOf_1 : decode cX12_headOf 1 = .ok (.getfield 31, 3) := by decide +kernel
theorem dX12_headOf_4 : decode cX12_headOf 4 = .ok (.iload_n 1, 1) := by decide +kernel
theorem dX12_headOf_5 : decode cX12_headOf 5 = .ok (.aaload, 1) := by decide +kernel
theorem dX12_headOf_6 : decode cX12_headOf 6 = .ok (.iconst 1, 1) := by decide +kernel
theorem dX12_headOf_7 : decode cX12_headOf 7 = .ok (.iload_n 2, 1) := by decide +kernel
theorem dX12_headOf_8 : decode cX12_headOf 8 = .ok (.iadd, 1) := by decide +kernel
theorem dX12_headOf_9 : decode cX12_headOf 9 = .ok (.iaload, 1) := by decide +kernel
theorem dX12_headOf_10 : decode cX12_headOf 10 = .ok (.ireturn, 1) := by decide +kernel
theorem dX12_footOf_0 : decode cX12_footOf 0 = .ok (.aload_n 0, 1) := by decide +kernel
theorem dX12_footOf_1 : decode cX12_footOf 1 = .ok (.getfield 31, 3) := by decide +kernel
theorem dX12_footOf_4 : decode cX12_footOf 4 = .ok (.iload_n 1, 1) := by decide +kernel
theorem dX12_footOf_5 : decode cX12_footOf 5 = .ok (.aaload, 1) := by decide +kernel
theorem dX12_footOf_6 : decode cX12_footOf 6 = .ok (.iconst 2, 1) := by decide +kernel
theorem dX12_footOf_7 : decode cX12_footOf 7 = .ok (.iload_n 2, 1) := by decide +kernel
theorem dX12_footOf_8 : decode cX12_footOf 8 = .ok (.isub, 1) := by decide +kernel
theorem dX12_footOf_9 : decode cX12_footOf 9 = .ok (.iaload, 1) := by decide +kernel
theorem dX12_footOf_10 : decode cX12_footOf 10 = .ok (.ireturn, 1) := by decide +kernel
theorem dX12_manyIn_0 : decode cX12_manyIn 0 = .ok (.iconst 0, 1) := by decide +kernel
theorem dX12_manyIn_1 : decode cX12_manyIn 1 = .ok (.istore_n 1, 1) := by decide +kernel
theorem dX12_manyIn_2 : decode cX12_manyIn 2 = .ok (.iload_n 1, 1) := by decide +kernel
theorem dX12_manyIn_3 : decode cX12_manyIn 3 = .ok (.bipush 6, 2) := by decide +kernel
theorem dX12_manyIn_5 : decode cX12_manyIn 5 = .ok (.if_icmp .ge 18, 3) := by decide +kernel
theorem dX12_manyIn_8 : decode cX12_manyIn 8 = .ok (.aload_n 0, 1) := by decide +kernel
theorem dX12_manyIn_9 : decode cX12_manyIn 9 = .ok (.iconst 0, 1) := by decide +kernel
theorem dX12_manyIn_10 : decode cX12_manyIn 10 = .ok (.iload_n 1, 1) := by decide +kernel
theorem dX12_manyIn_11 : decode cX12_manyIn 11 = .ok (.iadd, 1) := by decide +kernel
theorem dX12_manyIn_12 : decode cX12_manyIn 12 = .ok (.iaload, 1) := by decide +kernel
theorem dX12_manyIn_13 : decode cX12_manyIn 13 = .ok (.iconst (-1), 1) := by decide +kernel
theorem dX12_manyIn_14 : decode cX12_manyIn 14 = .ok (.if_icmp .eq 9, 3) := by decide +kernel
theorem dX12_manyIn_17 : decode cX12_manyIn 17 = .ok (.iinc 1 1, 3) := by decide +kernel
theorem dX12_manyIn_20 : decode cX12_manyIn 20 = .ok (.goto (-18), 3) := by decide +kernel
theorem dX12_manyIn_23 : decode cX12_manyIn 23 = .ok (.iload_n 1, 1) := by decide +kernel
theorem dX12_manyIn_24 : decode cX12_manyIn 24 = .ok (.ireturn, 1) := by decide +kernel
theorem dX12_placeOf_0 : decode cX12_placeOf 0 = .ok (.iconst 0, 1) := by decide +kernel
theorem dX12_placeOf_1 : decode cX12_placeOf 1 = .ok (.istore_n 2, 1) := by decide +kernel
theorem dX12_placeOf_2 : decode cX12_placeOf 2 = .ok (.iload_n 2, 1) := by decide +kernel
theorem dX12_placeOf_3 : decode cX12_placeOf 3 = .ok (.bipush 6, 2) := by decide +kernel
theorem dX12_placeOf_5 : decode cX12_placeOf 5 = .ok (.if_icmp .ge 20, 3) := by decide +kernel
theorem dX12_placeOf_8 : decode cX12_placeOf 8 = .ok (.aload_n 0, 1) := by decide +kernel
theorem dX12_placeOf_9 : decode cX12_placeOf 9 = .ok (.iconst 0, 1) := by decide +kernel
theorem dX12_placeOf_10 : decode cX12_placeOf 10 = .ok (.iload_n 2, 1) := by decide +kernel
theorem dX12_placeOf_11 : decode cX12_placeOf 11 = .ok (.iadd, 1) := by decide +kernel
theorem dX12_placeOf_12 : decode cX12_placeOf 12 = .ok (.iaload, 1) := by decide +kernel
theorem dX12_placeOf_13 : decode cX12_placeOf 13 = .ok (.iload_n 1, 1) := by decide +kernel
theorem dX12_placeOf_14 : decode cX12_placeOf 14 = .ok (.if_icmp .ne 5, 3) := by decide +kernel
theorem dX12_placeOf_17 : decode cX12_placeOf 17 = .ok (.iload_n 2, 1) := by decide +kernel
theorem dX12_placeOf_18 : decode cX12_placeOf 18 = .ok (.ireturn, 1) := by decide +kernel
theorem dX12_placeOf_19 : decode cX12_placeOf 19 = .ok (.iinc 2 1, 3) := by decide +kernel
theorem dX12_placeOf_22 : decode cX12_placeOf 22 = .ok (.goto (-20), 3) := by decide +kernel
theorem dX12_placeOf_25 : decode cX12_placeOf 25 = .ok (.iconst (-1), 1) := by decide +kernel
theorem dX12_placeOf_26 : decode cX12_placeOf 26 = .ok (.ireturn, 1) := by decide +kernel
theorem dX12_canLay_0 : decode cX12_canLay 0 = .ok (.aload_n 1, 1) := by decide +kernel
theorem dX12_canLay_1 : decode cX12_canLay 1 = .ok (.invokestatic 264, 3) := by decide +kernel
theorem dX12_canLay_4 : decode cX12_canLay 4 = .ok (.istore 4, 2) := by decide +kernel
theorem dX12_canLay_6 : decode cX12_canLay 6 = .ok (.aload_n 1, 1) := by decide +kernel
theorem dX12_canLay_7 : decode cX12_canLay 7 = .ok (.iload_n 2, 1) := by decide +kernel
theorem dX12_canLay_8 : decode cX12_canLay 8 = .ok (.invokestatic 268, 3) := by decide +kernel
theorem dX12_canLay_11 : decode cX12_canLay 11 = .ok (.iconst (-1), 1) := by decide +kernel
theorem dX12_canLay_12 : decode cX12_canLay 12 = .ok (.if_icmp .eq 5, 3) := by decide +kernel
theorem dX12_canLay_15 : decode cX12_canLay 15 = .ok (.iconst 0, 1) := by decide +kernel
theorem dX12_canLay_16 : decode cX12_canLay 16 = .ok (.ireturn, 1) := by decide +kernel
theorem dX12_canLay_17 : decode cX12_canLay 17 = .ok (.iload 4, 2) := by decide +kernel
theorem dX12_canLay_19 : decode cX12_canLay 19 = .ok (.ifCond .ne 5, 3) := by decide +kernel
theorem dX12_canLay_22 : decode cX12_canLay 22 = .ok (.iconst 1, 1) := by decide +kernel
theorem dX12_canLay_23 : decode cX12_canLay 23 = .ok (.ireturn, 1) := by decide +kernel
theorem dX12_canLay_24 : decode cX12_canLay 24 = .ok (.aload_n 1, 1) := by decide +kernel
theorem dX12_canLay_25 : decode cX12_canLay 25 = .ok (.iconst 0, 1) := by decide +kernel
theorem dX12_canLay_26 : decode cX12_canLay 26 = .ok (.iload 4, 2) := by decide +kernel
theorem dX12_canLay_28 : decode cX12_canLay 28 = .ok (.iadd, 1) := by decide +kernel
theorem dX12_canLay_29 : decode cX12_canLay 29 = .ok (.iconst 1, 1) := by decide +kernel
theorem dX12_canLay_30 : decode cX12_canLay 30 = .ok (.isub, 1) := by decide +kernel
theorem dX12_canLay_31 : decode cX12_canLay 31 = .ok (.iaload, 1) := by decide +kernel
theorem dX12_canLay_32 : decode cX12_canLay 32 = .ok (.istore 5, 2) := by decide +kernel
theorem dX12_canLay_34 : decode cX12_canLay 34 = .ok (.aload_n 0, 1) := by decide +kernel
theorem dX12_canLay_35 : decode cX12_canLay 35 = .ok (.aload_n 0, 1) := by decide +kernel
theorem dX12_canLay_36 : decode cX12_canLay 36 = .ok (.iload 5, 2) := by decide +kernel
theorem dX12_canLay_38 : decode cX12_canLay 38 = .ok (.aload_n 1, 1) := by decide +kernel
theorem dX12_canLay_39 : decode cX12_canLay 39 = .ok (.bipush 6, 2) := by decide +kernel
theorem dX12_canLay_41 : decode cX12_canLay 41 = .ok (.iload 5, 2) := by decide +kernel
theorem dX12_canLay_43 : decode cX12_canLay 43 = .ok (.iadd, 1) := by decide +kernel
theorem dX12_canLay_44 : decode cX12_canLay 44 = .ok (.iaload, 1) := by decide +kernel
theorem dX12_canLay_45 : decode cX12_canLay 45 = .ok (.invokevirtual 272, 3) := by decide +kernel
theorem dX12_canLay_48 : decode cX12_canLay 48 = .ok (.aload_n 0, 1) := by decide +kernel
theorem dX12_canLay_49 : decode cX12_canLay 49 = .ok (.iload_n 2, 1) := by decide +kernel
theorem dX12_canLay_50 : decode cX12_canLay 50 = .ok (.iload_n 3, 1) := by decide +kernel
theorem dX12_canLay_51 : decode cX12_canLay 51 = .ok (.invokevirtual 275, 3) := by decide +kernel
theorem dX12_canLay_54 : decode cX12_canLay 54 = .ok (.invokevirtual 278, 3) := by decide +kernel
theorem dX12_canLay_57 : decode cX12_canLay 57 = .ok (.ireturn, 1) := by decide +kernel
theorem dX12_leftBy_0 : decode cX12_leftBy 0 = .ok (.aload_n 0, 1) := by decide +kernel
theorem dX12_leftBy_1 : decode cX12_leftBy 1 = .ok (.getfield 61, 3) := by decide +kernel
theorem dX12_leftBy_4 : decode cX12_leftBy 4 = .ok (.iconst 0, 1) := by decide +kernel
theorem dX12_leftBy_5 : decode cX12_leftBy 5 = .ok (.iload_n 1, 1) := by decide +kernel
theorem dX12_leftBy_6 : decode cX12_leftBy 6 = .ok (.iastore, 1) := by decide +kernel
theorem dX12_leftBy_7 : decode cX12_leftBy 7 = .ok (.aload_n 0, 1) := by decide +kernel
theorem dX12_leftBy_8 : decode cX12_leftBy 8 = .ok (.getfield 61, 3) := by decide +kernel
theorem dX12_leftBy_11 : decode cX12_leftBy 11 = .ok (.iconst 1, 1) := by decide +kernel
theorem dX12_leftBy_12 : decode cX12_leftBy 12 = .ok (.iload_n 2, 1) := by decide +kernel
theorem dX12_leftBy_13 : decode cX12_leftBy 13 = .ok (.iastore, 1) := by decide +kernel
theorem dX12_leftBy_14 : decode cX12_leftBy 14 = .ok (.aload_n 0, 1) := by decide +kernel
theorem dX12_leftBy_15 : decode cX12_leftBy 15 = .ok (.getfield 61, 3) := by decide +kernel
theorem dX12_leftBy_18 : decode cX12_leftBy 18 = .ok (.iconst 2, 1) := by decide +kernel
theorem dX12_leftBy_19 : decode cX12_leftBy 19 = .ok (.iload_n 3, 1) := by decide +kernel
theorem dX12_leftBy_20 : decode cX12_leftBy 20 = .ok (.iastore, 1) := by decide +kernel
theorem dX12_leftBy_21 : decode cX12_leftBy 21 = .ok (.aload_n 0, 1) := by decide +kernel
theorem dX12_leftBy_22 : decode cX12_leftBy 22 = .ok (.getfield 61, 3) := by decide +kernel
theorem dX12_leftBy_25 : decode cX12_leftBy 25 = .ok (.iconst 3, 1) := by decide +kernel
theorem dX12_leftBy_26 : decode cX12_leftBy 26 = .ok (.iload 4, 2) := by decide +kernel
theorem dX12_leftBy_28 : decode cX12_leftBy 28 = .ok (.iastore, 1) := by decide +kernel
theorem dX12_leftBy_29 : decode cX12_leftBy 29 = .ok (.aload_n 0, 1) := by decide +kernel
theorem dX12_leftBy_30 : decode cX12_leftBy 30 = .ok (.getfield 61, 3) := by decide +kernel
theorem dX12_leftBy_33 : decode cX12_leftBy 33 = .ok (.iconst 4, 1) := by decide +kernel
theorem dX12_leftBy_34 : decode cX12_leftBy 34 = .ok (.iload 5, 2) := by decide +kernel
theorem dX12_leftBy_36 : decode cX12_leftBy 36 = .ok (.iastore, 1) := by decide +kernel
theorem dX12_leftBy_37 : decode cX12_leftBy 37 = .ok (.aload_n 0, 1) := by decide +kernel
theorem dX12_leftBy_38 : decode cX12_leftBy 38 = .ok (.getfield 61, 3) := by decide +kernel
theorem dX12_leftBy_41 : decode cX12_leftBy 41 = .ok (.iconst 5, 1) := by decide +kernel
theorem dX12_leftBy_42 : decode cX12_leftBy 42 = .ok (.iload 6, 2) := by decide +kernel
theorem dX12_leftBy_44 : decode cX12_leftBy 44 = .ok (.iastore, 1) := by decide +kernel
theorem dX12_leftBy_45 : decode cX12_leftBy 45 = .ok (.aload_n 0, 1) := by decide +kernel
theorem dX12_leftBy_46 : decode cX12_leftBy 46 = .ok (.getfield 61, 3) := by decide +kernel
theorem dX12_leftBy_49 : decode cX12_leftBy 49 = .ok (.bipush 6, 2) := by decide +kernel
theorem dX12_leftBy_51 : decode cX12_leftBy 51 = .ok (.iload 7, 2) := by decide +kernel
theorem dX12_leftBy_53 : decode cX12_leftBy 53 = .ok (.iastore, 1) := by decide +kernel
theorem dX12_leftBy_54 : decode cX12_leftBy 54 = .ok (.aload_n 0, 1) := by decide +kernel
theorem dX12_leftBy_55 : decode cX12_leftBy 55 = .ok (.getfield 61, 3) := by decide +kernel
theorem dX12_leftBy_58 : decode cX12_leftBy 58 = .ok (.bipush 7, 2) := by decide +kernel
theorem dX12_leftBy_60 : decode cX12_leftBy 60 = .ok (.iload 8, 2) := by decide +kernel
theorem dX12_leftBy_62 : decode cX12_leftBy 62 = .ok (.iastore, 1) := by decide +kernel
theorem dX12_leftBy_63 : decode cX12_leftBy 63 = .ok (.aload_n 0, 1) := by decide +kernel
theorem dX12_leftBy_64 : decode cX12_leftBy 64 = .ok (.getfield 61, 3) := by decide +kernel
theorem dX12_leftBy_67 : decode cX12_leftBy 67 = .ok (.bipush 8, 2) := by decide +kernel
theorem dX12_leftBy_69 : decode cX12_leftBy 69 = .ok (.iload 9, 2) := by decide +kernel
theorem dX12_leftBy_71 : decode cX12_leftBy 71 = .ok (.iastore, 1) := by decide +kernel
theorem dX12_leftBy_72 : decode cX12_leftBy 72 = .ok (.aload_n 0, 1) := by decide +kernel
theorem dX12_leftBy_73 : decode cX12_leftBy 73 = .ok (.invokevirtual 282, 3) := by decide +kernel
theorem dX12_leftBy_76 : decode cX12_leftBy 76 = .ok (.ireturn, 1) := by decide +kernel
theorem dX12_leftOf_0 : decode cX12_leftOf 0 = .ok (.aload_n 0, 1) := by decide +kernel
theorem dX12_leftOf_1 : decode cX12_leftOf 1 = .ok (.iload 4, 2) := by decide +kernel
theorem dX12_leftOf_3 : decode cX12_leftOf 3 = .ok (.aload_n 0, 1) := by decide +kernel
theorem dX12_leftOf_4 : decode cX12_leftOf 4 = .ok (.getfield 31, 3) := by decide +kernel
theorem dX12_leftOf_7 : decode cX12_leftOf 7 = .ok (.iload_n 2, 1) := by decide +kernel
theorem dX12_leftOf_8 : decode cX12_leftOf 8 = .ok (.aaload, 1) := by decide +kernel
theorem dX12_leftOf_9 : decode cX12_leftOf 9 = .ok (.iconst 3, 1) := by decide +kernel
theorem dX12_leftOf_10 : decode cX12_leftOf 10 = .ok (.iaload, 1) := by decide +kernel
theorem dX12_leftOf_11 : decode cX12_leftOf 11 = .ok (.aload_n 0, 1) := by decide +kernel
theorem dX12_leftOf_12 : decode cX12_leftOf 12 = .ok (.getfield 31, 3) := by decide +kernel
theorem dX12_leftOf_15 : decode cX12_leftOf 15 = .ok (.iload_n 2, 1) := by decide +kernel
theorem dX12_leftOf_16 : decode cX12_leftOf 16 = .ok (.aaload, 1) := by decide +kernel
theorem dX12_leftOf_17 : decode cX12_leftOf 17 = .ok (.iconst 0, 1) := by decide +kernel
theorem dX12_leftOf_18 : decode cX12_leftOf 18 = .ok (.iaload, 1) := by decide +kernel
theorem dX12_leftOf_19 : decode cX12_leftOf 19 = .ok (.aload_n 1, 1) := by decide +kernel
theorem dX12_leftOf_20 : decode cX12_leftOf 20 = .ok (.bipush 12, 2) := by decide +kernel
theorem dX12_leftOf_22 : decode cX12_leftOf 22 = .ok (.iload_n 2, 1) := by decide +kernel
theorem dX12_leftOf_23 : decode cX12_leftOf 23 = .ok (.iadd, 1) := by decide +kernel
theorem dX12_leftOf_24 : decode cX12_leftOf 24 = .ok (.iaload, 1) := by decide +kernel
theorem dX12_leftOf_25 : decode cX12_leftOf 25 = .ok (.aload_n 1, 1) := by decide +kernel
theorem dX12_leftOf_26 : decode cX12_leftOf 26 = .ok (.bipush 18, 2) := by decide +kernel
theorem dX12_leftOf_28 : decode cX12_leftOf 28 = .ok (.iload_n 2, 1) := by decide +kernel
theorem dX12_leftOf_29 : decode cX12_leftOf 29 = .ok (.iadd, 1) := by decide +kernel
theorem dX12_leftOf_30 : decode cX12_leftOf 30 = .ok (.iaload, 1) := by decide +kernel
theorem dX12_leftOf_31 : decode cX12_leftOf 31 = .ok (.iload 5, 2) := by decide +kernel
theorem dX12_leftOf_33 : decode cX12_leftOf 33 = .ok (.iload_n 3, 1) := by decide +kernel
theorem dX12_leftOf_34 : decode cX12_leftOf 34 = .ok (.aload_n 1, 1) := by decide +kernel
theorem dX12_leftOf_35 : decode cX12_leftOf 35 = .ok (.bipush 29, 2) := by decide +kernel
theorem dX12_leftOf_37 : decode cX12_leftOf 37 = .ok (.iaload, 1) := by decide +kernel
theorem dX12_leftOf_38 : decode cX12_leftOf 38 = .ok (.iload_n 2, 1) := by decide +kernel
theorem dX12_leftOf_39 : decode cX12_leftOf 39 = .ok (.invokevirtual 285, 3) := by decide +kernel
theorem dX12_leftOf_42 : decode cX12_leftOf 42 = .ok (.ireturn, 1) := by decide +kernel
theorem dX12_runs_0 : decode cX12_runs 0 = .ok (.aload_n 1, 1) := by decide +kernel
theorem dX12_runs_1 : decode cX12_runs 1 = .ok (.bipush 29, 2) := by decide +kernel
theorem dX12_runs_3 : decode cX12_runs 3 = .ok (.iaload, 1) := by decide +kernel
theorem dX12_runs_4 : decode cX12_runs 4 = .ok (.istore 4, 2) := by decide +kernel
theorem dX12_runs_6 : decode cX12_runs 6 = .ok (.aload_n 1, 1) := by decide +kernel
theorem dX12_runs_7 : decode cX12_runs 7 = .ok (.invokestatic 264, 3) := by decide +kernel
theorem dX12_runs_10 : decode cX12_runs 10 = .ok (.istore 5, 2) := by decide +kernel
theorem dX12_runs_12 : decode cX12_runs 12 = .ok (.iconst 0, 1) := by decide +kernel
theorem dX12_runs_13 : decode cX12_runs 13 = .ok (.istore 6, 2) := by decide +kernel
theorem dX12_runs_15 : decode cX12_runs 15 = .ok (.iload 6, 2) := by decide +kernel
theorem dX12_runs_17 : decode cX12_runs 17 = .ok (.iload 5, 2) := by decide +kernel
theorem dX12_runs_19 : decode cX12_runs 19 = .ok (.if_icmp .ge 67, 3) := by decide +kernel
theorem dX12_runs_22 : decode cX12_runs 22 = .ok (.aload_n 1, 1) := by decide +kernel
theorem dX12_runs_23 : decode cX12_runs 23 = .ok (.iconst 0, 1) := by decide +kernel
theorem dX12_runs_24 : decode cX12_runs 24 = .ok (.iload 6, 2) := by decide +kernel
theorem dX12_runs_26 : decode cX12_runs 26 = .ok (.iadd, 1) := by decide +kernel
theorem dX12_runs_27 : decode cX12_runs 27 = .ok (.iaload, 1) := by decide +kernel
theorem dX12_runs_28 : decode cX12_runs 28 = .ok (.istore 7, 2) := by decide +kernel
theorem dX12_runs_30 : decode cX12_runs 30 = .ok (.aload_n 0, 1) := by decide +kernel
theorem dX12_runs_31 : decode cX12_runs 31 = .ok (.aload_n 1, 1) := by decide +kernel
theorem dX12_runs_32 : decode cX12_runs 32 = .ok (.iload 7, 2) := by decide +kernel
theorem dX12_runs_34 : decode cX12_runs 34 = .ok (.aload_n 1, 1) := by decide +kernel
theorem dX12_runs_35 : decode cX12_runs 35 = .ok (.bipush 6, 2) := by decide +kernel
theorem dX12_runs_37 : decode cX12_runs 37 = .ok (.iload 7, 2) := by decide +kernel
theorem dX12_runs_39 : decode cX12_runs 39 = .ok (.iadd, 1) := by decide +kernel
theorem dX12_runs_40 : decode cX12_runs 40 = .ok (.iaload, 1) := by decide +kernel
theorem dX12_runs_41 : decode cX12_runs 41 = .ok (.iload 4, 2) := by decide +kernel
theorem dX12_runs_43 : decode cX12_runs 43 = .ok (.iload 6, 2) := by decide +kernel
theorem dX12_runs_45 : decode cX12_runs 45 = .ok (.invokevirtual 289, 3) := by decide +kernel
theorem dX12_runs_48 : decode cX12_runs 48 = .ok (.istore 4, 2) := by decide +kernel
theorem dX12_runs_50 : decode cX12_runs 50 = .ok (.iload 6, 2) := by decide +kernel
theorem dX12_runs_52 : decode cX12_runs 52 = .ok (.iload_n 2, 1) := by decide +kernel
theorem dX12_runs_53 : decode cX12_runs 53 = .ok (.if_icmp .ne 14, 3) := by decide +kernel
theorem dX12_runs_56 : decode cX12_runs 56 = .ok (.iconst 0, 1) := by decide +kernel
theorem dX12_runs_57 : decode cX12_runs 57 = .ok (.iload 4, 2) := by decide +kernel
theorem dX12_runs_59 : decode cX12_runs 59 = .ok (.iload_n 3, 1) := by decide +kernel
theorem dX12_runs_60 : decode cX12_runs 60 = .ok (.isub, 1) := by decide +kernel
theorem dX12_runs_61 : decode cX12_runs 61 = .ok (.invokestatic 248, 3) := by decide +kernel
theorem dX12_runs_64 : decode cX12_runs 64 = .ok (.goto 5, 3) := by decide +kernel
theorem dX12_runs_67 : decode cX12_runs 67 = .ok (.iload 4, 2) := by decide +kernel
theorem dX12_runs_69 : decode cX12_runs 69 = .ok (.istore 4, 2) := by decide +kernel
theorem dX12_runs_71 : decode cX12_runs 71 = .ok (.aload_n 0, 1) := by decide +kernel
theorem dX12_runs_72 : decode cX12_runs 72 = .ok (.getfield 73, 3) := by decide +kernel
theorem dX12_runs_75 : decode cX12_runs 75 = .ok (.iload 6, 2) := by decide +kernel
theorem dX12_runs_77 : decode cX12_runs 77 = .ok (.iload 4, 2) := by decide +kernel
theorem dX12_runs_79 : decode cX12_runs 79 = .ok (.iastore, 1) := by decide +kernel
theorem dX12_runs_80 : decode cX12_runs 80 = .ok (.iinc 6 1, 3) := by decide +kernel
theorem dX12_runs_83 : decode cX12_runs 83 = .ok (.goto (-68), 3) := by decide +kernel
theorem dX12_runs_86 : decode cX12_runs 86 = .ok (.iload 4, 2) := by decide +kernel
theorem dX12_runs_88 : decode cX12_runs 88 = .ok (.ireturn, 1) := by decide +kernel
theorem dX12_arrives_0 : decode cX12_arrives 0 = .ok (.aload_n 0, 1) := by decide +kernel
theorem dX12_arrives_1 : decode cX12_arrives 1 = .ok (.aload_n 1, 1) := by decide +kernel
theorem dX12_arrives_2 : decode cX12_arrives 2 = .ok (.iconst (-1), 1) := by decide +kernel
theorem dX12_arrives_3 : decode cX12_arrives 3 = .ok (.iconst 0, 1) := by decide +kernel
theorem dX12_arrives_4 : decode cX12_arrives 4 = .ok (.invokevirtual 293, 3) := by decide +kernel
theorem dX12_arrives_7 : decode cX12_arrives 7 = .ok (.ireturn, 1) := by decide +kernel
theorem dX12_longOf_0 : decode cX12_longOf 0 = .ok (.iconst 0, 1) := by decide +kernel
theorem dX12_longOf_1 : decode cX12_longOf 1 = .ok (.istore_n 2, 1) := by decide +kernel
theorem dX12_longOf_2 : decode cX12_longOf 2 = .ok (.iconst 0, 1) := by decide +kernel
theorem dX12_longOf_3 : decode cX12_longOf 3 = .ok (.istore_n 3, 1) := by decide +kernel
theorem dX12_longOf_4 : decode cX12_longOf 4 = .ok (.iload_n 3, 1) := by decide +kernel
theorem dX12_longOf_5 : decode cX12_longOf 5 = .ok (.aload_n 1, 1) := by decide +kernel
theorem dX12_longOf_6 : decode cX12_longOf 6 = .ok (.invokestatic 264, 3) := by decide +kernel
theorem dX12_longOf_9 : decode cX12_longOf 9 = .ok (.if_icmp .ge 24, 3) := by decide +kernel
theorem dX12_longOf_12 : decode cX12_longOf 12 = .ok (.iload_n 2, 1) := by decide +kernel
theorem dX12_longOf_13 : decode cX12_longOf 13 = .ok (.aload_n 0, 1) := by decide +kernel
theorem dX12_longOf_14 : decode cX12_longOf 14 = .ok (.getfield 31, 3) := by decide +kernel
theorem dX12_longOf_17 : decode cX12_longOf 17 = .ok (.aload_n 1, 1) := by decide +kernel
theorem dX12_longOf_18 : decode cX12_longOf 18 = .ok (.iconst 0, 1) := by decide +kernel
theorem dX12_longOf_19 : decode cX12_longOf 19 = .ok (.iload_n 3, 1) := by decide +kernel
theorem dX12_longOf_20 : decode cX12_longOf 20 = .ok (.iadd, 1) := by decide +kernel
theorem dX12_longOf_21 : decode cX12_longOf 21 = .ok (.iaload, 1) := by decide +kernel
theorem dX12_longOf_22 : decode cX12_longOf 22 = .ok (.aaload, 1) := by decide +kernel
theorem dX12_longOf_23 : decode cX12_longOf 23 = .ok (.iconst 0, 1) := by decide +kernel
theorem dX12_longOf_24 : decode cX12_longOf 24 = .ok (.iaload, 1) := by decide +kernel
theorem dX12_longOf_25 : decode cX12_longOf 25 = .ok (.iadd, 1) := by decide +kernel
theorem dX12_longOf_26 : decode cX12_longOf 26 = .ok (.istore_n 2, 1) := by decide +kernel
theorem dX12_longOf_27 : decode cX12_longOf 27 = .ok (.iinc 3 1, 3) := by decide +kernel
theorem dX12_longOf_30 : decode cX12_longOf 30 = .ok (.goto (-26), 3) := by decide +kernel
theorem dX12_longOf_33 : decode cX12_longOf 33 = .ok (.iload_n 2, 1) := by decide +kernel
theorem dX12_longOf_34 : decode cX12_longOf 34 = .ok (.ireturn, 1) := by decide +kernel
theorem dX12_isReached_0 : decode cX12_isReached 0 = .ok (.aload_n 0, 1) := by decide +kernel
theorem dX12_isReached_1 : decode cX12_isReached 1 = .ok (.aload_n 1, 1) := by decide +kernel
theorem dX12_isReached_2 : decode cX12_isReached 2 = .ok (.invokevirtual 297, 3) := by decide +kernel
theorem dX12_isReached_5 : decode cX12_isReached 5 = .ok (.aload_n 0, 1) := by decide +kernel
theorem dX12_isReached_6 : decode cX12_isReached 6 = .ok (.getfield 43, 3) := by decide +kernel
theorem dX12_isReached_9 : decode cX12_isReached 9 = .ok (.iload_n 2, 1) := by decide +kernel
theorem dX12_isReached_10 : decode cX12_isReached 10 = .ok (.aaload, 1) := by decide +kernel
theorem dX12_isReached_11 : decode cX12_isReached 11 = .ok (.iconst 0, 1) := by decide +kernel
theorem dX12_isReached_12 : decode cX12_isReached 12 = .ok (.iaload, 1) := by decide +kernel
theorem dX12_isReached_13 : decode cX12_isReached 13 = .ok (.if_icmp .lt 23, 3) := by decide +kernel
theorem dX12_isReached_16 : decode cX12_isReached 16 = .ok (.aload_n 0, 1) := by decide +kernel
theorem dX12_isReached_17 : decode cX12_isReached 17 = .ok (.aload_n 1, 1) := by decide +kernel
theorem dX12_isReached_18 : decode cX12_isReached 18 = .ok (.invokevirtual 300, 3) := by decide +kernel
theorem dX12_isReached_21 : decode cX12_isReached 21 = .ok (.aload_n 0, 1) := by decide +kernel
theorem dX12_isReached_22 : decode cX12_isReached 22 = .ok (.getfield 43, 3) := by decide +kernel
theorem dX12_isReached_25 : decode cX12_isReached 25 = .ok (.iload_n 2, 1) := by decide +kernel
theorem dX12_isReached_26 : decode cX12_isReached 26 = .ok (.aaload, 1) := by decide +kernel
theorem dX12_isReached_27 : decode cX12_isReached 27 = .ok (.iconst 1, 1) := by decide +kernel
theorem dX12_isReached_28 : decode cX12_isReached 28 = .ok (.iaload, 1) := by decide +kernel
theorem dX12_isReached_29 : decode cX12_isReached 29 = .ok (.if_icmp .lt 7, 3) := by decide +kernel
theorem dX12_isReached_32 : decode cX12_isReached 32 = .ok (.iconst 1, 1) := by decide +kernel
theorem dX12_isReached_33 : decode cX12_isReached 33 = .ok (.goto 4, 3) := by decide +kernel
theorem dX12_isReached_36 : decode cX12_isReached 36 = .ok (.iconst 0, 1) := by decide +kernel
theorem dX12_isReached_37 : decode cX12_isReached 37 = .ok (.ireturn, 1) := by decide +kernel
theorem dX12_hourEnds_0 : decode cX12_hourEnds 0 = .ok (.iconst 0, 1) := by decide +kernel
theorem dX12_hourEnds_1 : decode cX12_hourEnds 1 = .ok (.istore_n 2, 1) := by decide +kernel
theorem dX12_hourEnds_2 : decode cX12_hourEnds 2 = .ok (.iload_n 2, 1) := by decide +kernel
theorem dX12_hourEnds_3 : decode cX12_hourEnds 3 = .ok (.aload_n 0, 1) := by decide +kernel
theorem dX12_hourEnds_4 : decode cX12_hourEnds 4 = .ok (.getfield 23, 3) := by decide +kernel
theorem dX12_hourEnds_7 : decode cX12_hourEnds 7 = .ok (.iconst 2, 1) := by decide +kernel
theorem dX12_hourEnds_8 : decode cX12_hourEnds 8 = .ok (.iaload, 1) := by decide +kernel
theorem dX12_hourEnds_9 : decode cX12_hourEnds 9 = .ok (.if_icmp .ge 80, 3) := by decide +kernel
theorem dX12_hourEnds_12 : decode cX12_hourEnds 12 = .ok (.aload_n 1, 1) := by decide +kernel
theorem dX12_hourEnds_13 : decode cX12_hourEnds 13 = .ok (.bipush 24, 2) := by decide +kernel
theorem dX12_hourEnds_15 : decode cX12_hourEnds 15 = .ok (.iload_n 2, 1) := by decide +kernel
theorem dX12_hourEnds_16 : decode cX12_hourEnds 16 = .ok (.iadd, 1) := by decide +kernel
theorem dX12_hourEnds_17 : decode cX12_hourEnds 17 = .ok (.iaload, 1) := by decide +kernel
theorem dX12_hourEnds_18 : decode cX12_hourEnds 18 = .ok (.istore_n 3, 1) := by decide +kernel
theorem dX12_hourEnds_19 : decode cX12_hourEnds 19 = .ok (.aload_n 0, 1) := by decide +kernel
theorem dX12_hourEnds_20 : decode cX12_hourEnds 20 = .ok (.aload_n 1, 1) := by decide +kernel
theorem dX12_hourEnds_21 : decode cX12_hourEnds 21 = .ok (.iload_n 2, 1) := by decide +kernel
theorem dX12_hourEnds_22 : decode cX12_hourEnds 22 = .ok (.invokevirtual 303, 3) := by decide +kernel
theorem dX12_hourEnds_25 : decode cX12_hourEnds 25 = .ok (.ifCond .eq 35, 3) := by decide +kernel
theorem dX12_hourEnds_28 : decode cX12_hourEnds 28 = .ok (.aload_n 0, 1) := by decide +kernel
theorem dX12_hourEnds_29 : decode cX12_hourEnds 29 = .ok (.dup, 1) := by decide +kernel
theorem dX12_hourEnds_30 : decode cX12_hourEnds 30 = .ok (.getfield 307, 3) := by decide +kernel
theorem dX12_hourEnds_33 : decode cX12_hourEnds 33 = .ok (.iload_n 3, 1) := by decide +kernel
theorem dX12_hourEnds_34 : decode cX12_hourEnds 34 = .ok (.iconst (-1), 1) := by decide +kernel
theorem dX12_hourEnds_35 : decode cX12_hourEnds 35 = .ok (.if_icmp .ne 7, 3) := by decide +kernel
theorem dX12_hourEnds_38 : decode cX12_hourEnds 38 = .ok (.iconst 1, 1) := by decide +kernel
theorem dX12_hourEnds_39 : decode cX12_hourEnds 39 = .ok (.goto 4, 3) := by decide +kernel
theorem dX12_hourEnds_42 : decode cX12_hourEnds 42 = .ok (.iconst 0, 1) := by decide +kernel
theorem dX12_hourEnds_43 : decode cX12_hourEnds 43 = .ok (.iadd, 1) := by decide +kernel
theorem dX12_hourEnds_44 : decode cX12_hourEnds 44 = .ok (.putfield 307, 3) := by decide +kernel
theorem dX12_hourEnds_47 : decode cX12_hourEnds 47 = .ok (.aload_n 1, 1) := by decide +kernel
theorem dX12_hourEnds_48 : decode cX12_hourEnds 48 = .ok (.bipush 24, 2) := by decide +kernel
theorem dX12_hourEnds_50 : decode cX12_hourEnds 50 = .ok (.iload_n 2, 1) := by decide +kernel
theorem dX12_hourEnds_51 : decode cX12_hourEnds 51 = .ok (.iadd, 1) := by decide +kernel
theorem dX12_hourEnds_52 : decode cX12_hourEnds 52 = .ok (.aload_n 1, 1) := by decide +kernel
theorem dX12_hourEnds_53 : decode cX12_hourEnds 53 = .ok (.bipush 30, 2) := by decide +kernel
theorem dX12_hourEnds_55 : decode cX12_hourEnds 55 = .ok (.iaload, 1) := by decide +kernel
theorem dX12_hourEnds_56 : decode cX12_hourEnds 56 = .ok (.iastore, 1) := by decide +kernel
theorem dX12_hourEnds_57 : decode cX12_hourEnds 57 = .ok (.goto 26, 3) := by decide +kernel
theorem dX12_hourEnds_60 : decode cX12_hourEnds 60 = .ok (.iload_n 3, 1) := by decide +kernel
theorem dX12_hourEnds_61 : decode cX12_hourEnds 61 = .ok (.iconst (-1), 1) := by decide +kernel
theorem dX12_hourEnds_62 : decode cX12_hourEnds 62 = .ok (.if_icmp .eq 21, 3) := by decide +kernel
theorem dX12_hourEnds_65 : decode cX12_hourEnds 65 = .ok (.aload_n 1, 1) := by decide +kernel
theorem dX12_hourEnds_66 : decode cX12_hourEnds 66 = .ok (.bipush 30, 2) := by decide +kernel
theorem dX12_hourEnds_68 : decode cX12_hourEnds 68 = .ok (.iaload, 1) := by decide +kernel
theorem dX12_hourEnds_69 : decode cX12_hourEnds 69 = .ok (.iload_n 3, 1) := by decide +kernel
theorem dX12_hourEnds_70 : decode cX12_hourEnds 70 = .ok (.isub, 1) := by decide +kernel
theorem dX12_hourEnds_71 : decode cX12_hourEnds 71 = .ok (.bipush 9, 2) := by decide +kernel
theorem dX12_hourEnds_73 : decode cX12_hourEnds 73 = .ok (.if_icmp .lt 10, 3) := by decide +kernel
theorem dX12_hourEnds_76 : decode cX12_hourEnds 76 = .ok (.aload_n 1, 1) := by decide +kernel
theorem dX12_hourEnds_77 : decode cX12_hourEnds 77 = .ok (.bipush 24, 2) := by decide +kernel
theorem dX12_hourEnds_79 : decode cX12_hourEnds 79 = .ok (.iload_n 2, 1) := by decide +kernel
theorem dX12_hourEnds_80 : decode cX12_hourEnds 80 = .ok (.iadd, 1) := by decide +kernel
theorem dX12_hourEnds_81 : decode cX12_hourEnds 81 = .ok (.iconst (-1), 1) := by decide +kernel
theorem dX12_hourEnds_82 : decode cX12_hourEnds 82 = .ok (.iastore, 1) := by decide +kernel
theorem dX12_hourEnds_83 : decode cX12_hourEnds 83 = .ok (.iinc 2 1, 3) := by decide +kernel
theorem dX12_hourEnds_86 : decode cX12_hourEnds 86 = .ok (.goto (-84), 3) := by decide +kernel
theorem dX12_hourEnds_89 : decode cX12_hourEnds 89 = .ok (.aload_n 1, 1) := by decide +kernel
theorem dX12_hourEnds_90 : decode cX12_hourEnds 90 = .ok (.bipush 30, 2) := by decide +kernel
theorem dX12_hourEnds_92 : decode cX12_hourEnds 92 = .ok (.dup2, 1) := by decide +kernel
theorem dX12_hourEnds_93 : decode cX12_hourEnds 93 = .ok (.iaload, 1) := by decide +kernel
theorem dX12_hourEnds_94 : decode cX12_hourEnds 94 = .ok (.iconst 1, 1) := by decide +kernel
theorem dX12_hourEnds_95 : decode cX12_hourEnds 95 = .ok (.iadd, 1) := by decide +kernel
theorem dX12_hourEnds_96 : decode cX12_hourEnds 96 = .ok (.iastore, 1) := by decide +kernel
theorem dX12_hourEnds_97 : decode cX12_hourEnds 97 = .ok (.return_, 1) := by decide +kernel
theorem dX12_turns_0 : decode cX12_turns 0 = .ok (.aload_n 1, 1) := by decide +kernel
theorem dX12_turns_1 : decode cX12_turns 1 = .ok (.iload_n 2, 1) := by decide +kernel
theorem dX12_turns_2 : decode cX12_turns 2 = .ok (.invokestatic 268, 3) := by decide +kernel
theorem dX12_turns_5 : decode cX12_turns 5 = .ok (.iconst (-1), 1) := by decide +kernel
theorem dX12_turns_6 : decode cX12_turns 6 = .ok (.if_icmp .eq 5, 3) := by decide +kernel
theorem dX12_turns_9 : decode cX12_turns 9 = .ok (.iconst 0, 1) := by decide +kernel
theorem dX12_turns_10 : decode cX12_turns 10 = .ok (.ireturn, 1) := by decide +kernel
theorem dX12_turns_11 : decode cX12_turns 11 = .ok (.aload_n 1, 1) := by decide +kernel
theorem dX12_turns_12 : decode cX12_turns 12 = .ok (.bipush 6, 2) := by decide +kernel
theorem dX12_turns_14 : decode cX12_turns 14 = .ok (.iload_n 2, 1) := by decide +kernel
theorem dX12_turns_15 : decode cX12_turns 15 = .ok (.iadd, 1) := by decide +kernel
theorem dX12_turns_16 : decode cX12_turns 16 = .ok (.iconst 1, 1) := by decide +kernel
theorem dX12_turns_17 : decode cX12_turns 17 = .ok (.aload_n 1, 1) := by decide +kernel
theorem dX12_turns_18 : decode cX12_turns 18 = .ok (.bipush 6, 2) := by decide +kernel
theorem dX12_turns_20 : decode cX12_turns 20 = .ok (.iload_n 2, 1) := by decide +kernel
theorem dX12_turns_21 : decode cX12_turns 21 = .ok (.iadd, 1) := by decide +kernel
theorem dX12_turns_22 : decode cX12_turns 22 = .ok (.iaload, 1) := by decide +kernel
theorem dX12_turns_23 : decode cX12_turns 23 = .ok (.isub, 1) := by decide +kernel
theorem dX12_turns_24 : decode cX12_turns 24 = .ok (.iastore, 1) := by decide +kernel
theorem dX12_turns_25 : decode cX12_turns 25 = .ok (.iconst 1, 1) := by decide +kernel
theorem dX12_turns_26 : decode cX12_turns 26 = .ok (.ireturn, 1) := by decide +kernel
theorem dX12_laysOne_0 : decode cX12_laysOne 0 = .ok (.aload_n 0, 1) := by decide +kernel
theorem dX12_laysOne_1 : decode cX12_laysOne 1 = .ok (.aload_n 1, 1) := by decide +kernel
theorem dX12_laysOne_2 : decode cX12_laysOne 2 = .ok (.iload_n 2, 1) := by decide +kernel
theorem dX12_laysOne_3 : decode cX12_laysOne 3 = .ok (.aload_n 1, 1) := by decide +kernel
theorem dX12_laysOne_4 : decode cX12_laysOne 4 = .ok (.bipush 6, 2) := by decide +kernel
theorem dX12_laysOne_6 : decode cX12_laysOne 6 = .ok (.iload_n 2, 1) := by decide +kernel
theorem dX12_laysOne_7 : decode cX12_laysOne 7 = .ok (.iadd, 1) := by decide +kernel
theorem dX12_laysOne_8 : decode cX12_laysOne 8 = .ok (.iaload, 1) := by decide +kernel
theorem dX12_laysOne_9 : decode cX12_laysOne 9 = .ok (.invokevirtual 310, 3) := by decide +kernel
theorem dX12_laysOne_12 : decode cX12_laysOne 12 = .ok (.ifCond .ne 5, 3) := by decide +kernel
theorem dX12_laysOne_15 : decode cX12_laysOne 15 = .ok (.iconst 0, 1) := by decide +kernel
theorem dX12_laysOne_16 : decode cX12_laysOne 16 = .ok (.ireturn, 1) := by decide +kernel
theorem dX12_laysOne_17 : decode cX12_laysOne 17 = .ok (.aload_n 1, 1) := by decide +kernel
theorem dX12_laysOne_18 : decode cX12_laysOne 18 = .ok (.iconst 0, 1) := by decide +kernel
theorem dX12_laysOne_19 : decode cX12_laysOne 19 = .ok (.aload_n 1, 1) := by decide +kernel
theorem dX12_laysOne_20 : decode cX12_laysOne 20 = .ok (.invokestatic 264, 3) := by decide +kernel
theorem dX12_laysOne_23 : decode cX12_laysOne 23 = .ok (.iadd, 1) := by decide +kernel
theorem dX12_laysOne_24 : decode cX12_laysOne 24 = .ok (.iload_n 2, 1) := by decide +kernel
theorem dX12_laysOne_25 : decode cX12_laysOne 25 = .ok (.iastore, 1) := by decide +kernel
theorem dX12_laysOne_26 : decode cX12_laysOne 26 = .ok (.iconst 1, 1) := by decide +kernel
theorem dX12_laysOne_27 : decode cX12_laysOne 27 = .ok (.ireturn, 1) := by decide +kernel
theorem dX12_lifts_0 : decode cX12_lifts 0 = .ok (.aload_n 0, 1) := by decide +kernel
theorem dX12_lifts_1 : decode cX12_lifts 1 = .ok (.invokestatic 264, 3) := by decide +kernel
theorem dX12_lifts_4 : decode cX12_lifts 4 = .ok (.istore_n 1, 1) := by decide +kernel
theorem dX12_lifts_5 : decode cX12_lifts 5 = .ok (.iload_n 1, 1) := by decide +kernel
theorem dX12_lifts_6 : decode cX12_lifts 6 = .ok (.ifCond .ne 5, 3) := by decide +kernel
theorem dX12_lifts_9 : decode cX12_lifts 9 = .ok (.iconst 0, 1) := by decide +kernel
theorem dX12_lifts_10 : decode cX12_lifts 10 = .ok (.ireturn, 1) := by decide +kernel
theorem dX12_lifts_11 : decode cX12_lifts 11 = .ok (.aload_n 0, 1) := by decide +kernel
theorem dX12_lifts_12 : decode cX12_lifts 12 = .ok (.iconst 0, 1) := by decide +kernel
theorem dX12_lifts_13 : decode cX12_lifts 13 = .ok (.iload_n 1, 1) := by decide +kernel
theorem dX12_lifts_14 : decode cX12_lifts 14 = .ok (.iadd, 1) := by decide +kernel
theorem dX12_lifts_15 : decode cX12_lifts 15 = .ok (.iconst 1, 1) := by decide +kernel
theorem dX12_lifts_16 : decode cX12_lifts 16 = .ok (.isub, 1) := by decide +kernel
theorem dX12_lifts_17 : decode cX12_lifts 17 = .ok (.iconst (-1), 1) := by decide +kernel
theorem dX12_lifts_18 : decode cX12_lifts 18 = .ok (.iastore, 1) := by decide +kernel
theorem dX12_lifts_19 : decode cX12_lifts 19 = .ok (.iconst 1, 1) := by decide +kernel
theorem dX12_lifts_20 : decode cX12_lifts 20 = .ok (.ireturn, 1) := by decide +kernel
theorem dX12_bursts_0 : decode cX12_bursts 0 = .ok (.aload_n 0, 1) := by decide +kernel
theorem dX12_bursts_1 : decode cX12_bursts 1 = .ok (.bipush 18, 2) := by decide +kernel
theorem dX12_bursts_3 : decode cX12_bursts 3 = .ok (.iload_n 1, 1) := by decide +kernel
theorem dX12_bursts_4 : decode cX12_bursts 4 = .ok (.iadd, 1) := by decide +kernel
theorem dX12_bursts_5 : decode cX12_bursts 5 = .ok (.iaload, 1) := by decide +kernel
theorem dX12_bursts_6 : decode cX12_bursts 6 = .ok (.iload_n 2, 1) := by decide +kernel
theorem dX12_bursts_7 : decode cX12_bursts 7 = .ok (.iadd, 1) := by decide +kernel
theorem dX12_bursts_8 : decode cX12_bursts 8 = .ok (.iconst 0, 1) := by decide +kernel
theorem dX12_bursts_9 : decode cX12_bursts 9 = .ok (.bipush 9, 2) := by decide +kernel
theorem dX12_bursts_11 : decode cX12_bursts 11 = .ok (.invokestatic 137, 3) := by decide +kernel
theorem dX12_bursts_14 : decode cX12_bursts 14 = .ok (.ifCond .ne 5, 3) := by decide +kernel
theorem dX12_bursts_17 : decode cX12_bursts 17 = .ok (.iconst 0, 1) := by decide +kernel
theorem dX12_bursts_18 : decode cX12_bursts 18 = .ok (.ireturn, 1) := by decide +kernel
theorem dX12_bursts_19 : decode cX12_bursts 19 = .ok (.aload_n 0, 1) := by decide +kernel
theorem dX12_bursts_20 : decode cX12_bursts 20 = .ok (.bipush 18, 2) := by decide +kernel
theorem dX12_bursts_22 : decode cX12_bursts 22 = .ok (.iload_n 1, 1) := by decide +kernel
theorem dX12_bursts_23 : decode cX12_bursts 23 = .ok (.iadd, 1) := by decide +kernel
theorem dX12_bursts_24 : decode cX12_bursts 24 = .ok (.dup2, 1) := by decide +kernel
theorem dX12_bursts_25 : decode cX12_bursts 25 = .ok (.iaload, 1) := by decide +kernel
theorem dX12_bursts_26 : decode cX12_bursts 26 = .ok (.iload_n 2, 1) := by decide +kernel
theorem dX12_bursts_27 : decode cX12_bursts 27 = .ok (.iadd, 1) := by decide +kernel
theorem dX12_bursts_28 : decode cX12_bursts 28 = .ok (.iastore, 1) := by decide +kernel
theorem dX12_bursts_29 : decode cX12_bursts 29 = .ok (.iconst 1, 1) := by decide +kernel
theorem dX12_bursts_30 : decode cX12_bursts 30 = .ok (.ireturn, 1) := by decide +kernel
theorem dX12_becomes_0 : decode cX12_becomes 0 = .ok (.aload_n 0, 1) := by decide +kernel
theorem dX12_becomes_1 : decode cX12_becomes 1 = .ok (.iload_n 1, 1) := by decide +kernel
theorem dX12_becomes_2 : decode cX12_becomes 2 = .ok (.iaload, 1) := by decide +kernel
theorem dX12_becomes_3 : decode cX12_becomes 3 = .ok (.iload_n 2, 1) := by decide +kernel
theorem dX12_becomes_4 : decode cX12_becomes 4 = .ok (.if_icmp .ne 5, 3) := by decide +kernel
theorem dX12_becomes_7 : decode cX12_becomes 7 = .ok (.iconst 0, 1) := by decide +kernel
theorem dX12_becomes_8 : decode cX12_becomes 8 = .ok (.ireturn, 1) := by decide +kernel
theorem dX12_becomes_9 : decode cX12_becomes 9 = .ok (.aload_n 0, 1) := by decide +kernel
theorem dX12_becomes_10 : decode cX12_becomes 10 = .ok (.iload_n 1, 1) := by decide +kernel
theorem dX12_becomes_11 : decode cX12_becomes 11 = .ok (.iload_n 2, 1) := by decide +kernel
theorem dX12_becomes_12 : decode cX12_becomes 12 = .ok (.iastore, 1) := by decide +kernel
theorem dX12_becomes_13 : decode cX12_becomes 13 = .ok (.iconst 1, 1) := by decide +kernel
theorem dX12_becomes_14 : decode cX12_becomes 14 = .ok (.ireturn, 1) := by decide +kernel
theorem dX12_does_0 : decode cX12_does 0 = .ok (.aload_n 2, 1) := by decide +kernel
theorem dX12_does_1 : decode cX12_does 1 = .ok (.iconst 1, 1) := by decide +kernel
theorem dX12_does_2 : decode cX12_does 2 = .ok (.iaload, 1) := by decide +kernel
theorem dX12_does_3 : decode cX12_does 3 = .ok (.istore_n 3, 1) := by decide +kernel
theorem dX12_does_4 : decode cX12_does 4 = .ok (.aload_n 2, 1) := by decide +kernel
theorem dX12_does_5 : decode cX12_does 5 = .ok (.iconst 0, 1) := by decide +kernel
theorem dX12_does_6 : decode cX12_does 6 = .ok (.iaload, 1) := by decide +kernel
theorem dX12_does_7 : decode cX12_does 7 = .ok (.tableswitch 94 0 6 #[41, 48, 55, 60, 72, 79, 86], 41) := by decide +kernel
theorem dX12_does_48 : decode cX12_does 48 = .ok (.aload_n 0, 1) := by decide +kernel
theorem dX12_does_49 : decode cX12_does 49 = .ok (.aload_n 1, 1) := by decide +kernel
theorem dX12_does_50 : decode cX12_does 50 = .ok (.iload_n 3, 1) := by decide +kernel
theorem dX12_does_51 : decode cX12_does 51 = .ok (.invokevirtual 314, 3) := by decide +kernel
theorem dX12_does_54 : decode cX12_does 54 = .ok (.ireturn, 1) := by decide +kernel
theorem dX12_does_55 : decode cX12_does 55 = .ok (.aload_n 0, 1) := by decide +kernel
theorem dX12_does_56 : decode cX12_does 56 = .ok (.aload_n 1, 1) := by decide +kernel
theorem dX12_does_57 : decode cX12_does 57 = .ok (.iload_n 3, 1) := by decide +kernel
theorem dX12_does_58 : decode cX12_does 58 = .ok (.invokevirtual 317, 3) := by decide +kernel
theorem dX12_does_61 : decode cX12_does 61 = .ok (.ireturn, 1) := by decide +kernel
theorem dX12_does_62 : decode cX12_does 62 = .ok (.aload_n 1, 1) := by decide +kernel
theorem dX12_does_63 : decode cX12_does 63 = .ok (.invokestatic 320, 3) := by decide +kernel
theorem dX12_does_66 : decode cX12_does 66 = .ok (.ireturn, 1) := by decide +kernel
theorem dX12_does_67 : decode cX12_does 67 = .ok (.aload_n 1, 1) := by decide +kernel
theorem dX12_does_68 : decode cX12_does 68 = .ok (.bipush 12, 2) := by decide +kernel
theorem dX12_does_70 : decode cX12_does 70 = .ok (.iload_n 3, 1) := by decide +kernel
theorem dX12_does_71 : decode cX12_does 71 = .ok (.iadd, 1) := by decide +kernel
theorem dX12_does_72 : decode cX12_does 72 = .ok (.aload_n 2, 1) := by decide +kernel
theorem dX12_does_73 : decode cX12_does 73 = .ok (.iconst 2, 1) := by decide +kernel
theorem dX12_does_74 : decode cX12_does 74 = .ok (.iaload, 1) := by decide +kernel
theorem dX12_does_75 : decode cX12_does 75 = .ok (.invokestatic 324, 3) := by decide +kernel
theorem dX12_does_78 : decode cX12_does 78 = .ok (.ireturn, 1) := by decide +kernel
theorem dX12_does_79 : decode cX12_does 79 = .ok (.aload_n 1, 1) := by decide +kernel
theorem dX12_does_80 : decode cX12_does 80 = .ok (.iload_n 3, 1) := by decide +kernel
theorem dX12_does_81 : decode cX12_does 81 = .ok (.iconst 1, 1) := by decide +kernel
theorem dX12_does_82 : decode cX12_does 82 = .ok (.invokestatic 327, 3) := by decide +kernel
theorem dX12_does_85 : decode cX12_does 85 = .ok (.ireturn, 1) := by decide +kernel
theorem dX12_does_86 : decode cX12_does 86 = .ok (.aload_n 1, 1) := by decide +kernel
theorem dX12_does_87 : decode cX12_does 87 = .ok (.iload_n 3, 1) := by decide +kernel
theorem dX12_does_88 : decode cX12_does 88 = .ok (.iconst (-1), 1) := by decide +kernel
theorem dX12_does_89 : decode cX12_does 89 = .ok (.invokestatic 327, 3) := by decide +kernel
theorem dX12_does_92 : decode cX12_does 92 = .ok (.ireturn, 1) := by decide +kernel
theorem dX12_does_93 : decode cX12_does 93 = .ok (.aload_n 1, 1) := by decide +kernel
theorem dX12_does_94 : decode cX12_does 94 = .ok (.bipush 29, 2) := by decide +kernel
theorem dX12_does_96 : decode cX12_does 96 = .ok (.iload_n 3, 1) := by decide +kernel
theorem dX12_does_97 : decode cX12_does 97 = .ok (.invokestatic 324, 3) := by decide +kernel
theorem dX12_does_100 : decode cX12_does 100 = .ok (.ireturn, 1) := by decide +kernel
theorem dX12_does_101 : decode cX12_does 101 = .ok (.aload_n 1, 1) := by decide +kernel
theorem dX12_does_102 : decode cX12_does 102 = .ok (.bipush 30, 2) := by decide +kernel
theorem dX12_does_104 : decode cX12_does 104 = .ok (.iaload, 1) := by decide +kernel
theorem dX12_does_105 : decode cX12_does 105 = .ok (.sipush 500, 3) := by decide +kernel
theorem dX12_does_108 : decode cX12_does 108 = .ok (.if_icmp .lt 5, 3) := by decide +kernel
theorem dX12_does_111 : decode cX12_does 111 = .ok (.iconst 0, 1) := by decide +kernel
theorem dX12_does_112 : decode cX12_does 112 = .ok (.ireturn, 1) := by decide +kernel
theorem dX12_does_113 : decode cX12_does 113 = .ok (.aload_n 0, 1) := by decide +kernel
theorem dX12_does_114 : decode cX12_does 114 = .ok (.aload_n 1, 1) := by decide +kernel
theorem dX12_does_115 : decode cX12_does 115 = .ok (.invokevirtual 330, 3) := by decide +kernel
theorem dX12_does_118 : decode cX12_does 118 = .ok (.iconst 1, 1) := by decide +kernel
theorem dX12_does_119 : decode cX12_does 119 = .ok (.ireturn, 1) := by decide +kernel
theorem dX12_goes_0 : decode cX12_goes 0 = .ok (.iload_n 1, 1) := by decide +kernel
theorem dX12_goes_1 : decode cX12_goes 1 = .ok (.istore_n 3, 1) := by decide +kernel
theorem dX12_goes_2 : decode cX12_goes 2 = .ok (.iload_n 3, 1) := by decide +kernel
theorem dX12_goes_3 : decode cX12_goes 3 = .ok (.iload_n 2, 1) := by decide +kernel
theorem dX12_goes_4 : decode cX12_goes 4 = .ok (.if_icmp .ge 152, 3) := by decide +kernel
theorem dX12_goes_7 : decode cX12_goes 7 = .ok (.aload_n 0, 1) := by decide +kernel
theorem dX12_goes_8 : decode cX12_goes 8 = .ok (.getfield 334, 3) := by decide +kernel
theorem dX12_goes_11 : decode cX12_goes 11 = .ok (.sipush 200, 3) := by decide +kernel
theorem dX12_goes_14 : decode cX12_goes 14 = .ok (.if_icmp .ge 142, 3) := by decide +kernel
theorem dX12_goes_17 : decode cX12_goes 17 = .ok (.aload_n 0, 1) := by decide +kernel
theorem dX12_goes_18 : decode cX12_goes 18 = .ok (.dup, 1) := by decide +kernel
theorem dX12_goes_19 : decode cX12_goes 19 = .ok (.getfield 334, 3) := by decide +kernel
theorem dX12_goes_22 : decode cX12_goes 22 = .ok (.iconst 1, 1) := by decide +kernel
theorem dX12_goes_23 : decode cX12_goes 23 = .ok (.iadd, 1) := by decide +kernel
theorem dX12_goes_24 : decode cX12_goes 24 = .ok (.putfield 334, 3) := by decide +kernel
theorem dX12_goes_27 : decode cX12_goes 27 = .ok (.aload_n 0, 1) := by decide +kernel
theorem dX12_goes_28 : decode cX12_goes 28 = .ok (.getfield 64, 3) := by decide +kernel
theorem dX12_goes_31 : decode cX12_goes 31 = .ok (.iload_n 3, 1) := by decide +kernel
theorem dX12_goes_32 : decode cX12_goes 32 = .ok (.aaload, 1) := by decide +kernel
theorem dX12_goes_33 : decode cX12_goes 33 = .ok (.iconst 0, 1) := by decide +kernel
theorem dX12_goes_34 : decode cX12_goes 34 = .ok (.iaload, 1) := by decide +kernel
theorem dX12_goes_35 : decode cX12_goes 35 = .ok (.bipush 8, 2) := by decide +kernel
theorem dX12_goes_37 : decode cX12_goes 37 = .ok (.if_icmp .ne 53, 3) := by decide +kernel
theorem dX12_goes_40 : decode cX12_goes 40 = .ok (.iconst 0, 1) := by decide +kernel
theorem dX12_goes_41 : decode cX12_goes 41 = .ok (.istore 4, 2) := by decide +kernel
theorem dX12_goes_43 : decode cX12_goes 43 = .ok (.iload 4, 2) := by decide +kernel
theorem dX12_goes_45 : decode cX12_goes 45 = .ok (.aload_n 0, 1) := by decide +kernel
theorem dX12_goes_46 : decode cX12_goes 46 = .ok (.getfield 64, 3) := by decide +kernel
theorem dX12_goes_49 : decode cX12_goes 49 = .ok (.iload_n 3, 1) := by decide +kernel
theorem dX12_goes_50 : decode cX12_goes 50 = .ok (.aaload, 1) := by decide +kernel
theorem dX12_goes_51 : decode cX12_goes 51 = .ok (.iconst 1, 1) := by decide +kernel
theorem dX12_goes_52 : decode cX12_goes 52 = .ok (.iaload, 1) := by decide +kernel
theorem dX12_goes_53 : decode cX12_goes 53 = .ok (.if_icmp .ge 34, 3) := by decide +kernel
theorem dX12_goes_56 : decode cX12_goes 56 = .ok (.aload_n 0, 1) := by decide +kernel
theorem dX12_goes_57 : decode cX12_goes 57 = .ok (.getfield 334, 3) := by decide +kernel
theorem dX12_goes_60 : decode cX12_goes 60 = .ok (.sipush 200, 3) := by decide +kernel
theorem dX12_goes_63 : decode cX12_goes 63 = .ok (.if_icmp .ge 24, 3) := by decide +kernel
theorem dX12_goes_66 : decode cX12_goes 66 = .ok (.aload_n 0, 1) := by decide +kernel
theorem dX12_goes_67 : decode cX12_goes 67 = .ok (.iload_n 3, 1) := by decide +kernel
theorem dX12_goes_68 : decode cX12_goes 68 = .ok (.iconst 1, 1) := by decide +kernel
theorem dX12_goes_69 : decode cX12_goes 69 = .ok (.iadd, 1) := by decide +kernel
theorem dX12_goes_70 : decode cX12_goes 70 = .ok (.aload_n 0, 1) := by decide +kernel
theorem dX12_goes_71 : decode cX12_goes 71 = .ok (.getfield 64, 3) := by decide +kernel
theorem dX12_goes_74 : decode cX12_goes 74 = .ok (.iload_n 3, 1) := by decide +kernel
theorem dX12_goes_75 : decode cX12_goes 75 = .ok (.aaload, 1) := by decide +kernel
theorem dX12_goes_76 : decode cX12_goes 76 = .ok (.iconst 3, 1) := by decide +kernel
theorem dX12_goes_77 : decode cX12_goes 77 = .ok (.iaload, 1) := by decide +kernel
theorem dX12_goes_78 : decode cX12_goes 78 = .ok (.invokevirtual 337, 3) := by decide +kernel
theorem dX12_goes_81 : decode cX12_goes 81 = .ok (.iinc 4 1, 3) := by decide +kernel
theorem dX12_goes_84 : decode cX12_goes 84 = .ok (.goto (-41), 3) := by decide +kernel
theorem dX12_goes_87 : decode cX12_goes 87 = .ok (.goto 57, 3) := by decide +kernel
theorem dX12_goes_90 : decode cX12_goes 90 = .ok (.aload_n 0, 1) := by decide +kernel
theorem dX12_goes_91 : decode cX12_goes 91 = .ok (.aload_n 0, 1) := by decide +kernel
theorem dX12_goes_92 : decode cX12_goes 92 = .ok (.getfield 67, 3) := by decide +kernel
theorem dX12_goes_95 : decode cX12_goes 95 = .ok (.aload_n 0, 1) := by decide +kernel
theorem dX12_goes_96 : decode cX12_goes 96 = .ok (.getfield 64, 3) := by decide +kernel
theorem dX12_goes_99 : decode cX12_goes 99 = .ok (.iload_n 3, 1) := by decide +kernel
theorem dX12_goes_100 : decode cX12_goes 100 = .ok (.aaload, 1) := by decide +kernel
theorem dX12_goes_101 : decode cX12_goes 101 = .ok (.invokevirtual 340, 3) := by decide +kernel
theorem dX12_goes_104 : decode cX12_goes 104 = .ok (.istore 4, 2) := by decide +kernel
theorem dX12_goes_106 : decode cX12_goes 106 = .ok (.aload_n 0, 1) := by decide +kernel
theorem dX12_goes_107 : decode cX12_goes 107 = .ok (.dup, 1) := by decide +kernel
theorem dX12_goes_108 : decode cX12_goes 108 = .ok (.getfield 344, 3) := by decide +kernel
theorem dX12_goes_111 : decode cX12_goes 111 = .ok (.iload 4, 2) := by decide +kernel
theorem dX12_goes_113 : decode cX12_goes 113 = .ok (.ifCond .eq 7, 3) := by decide +kernel
theorem dX12_goes_116 : decode cX12_goes 116 = .ok (.iconst 1, 1) := by decide +kernel
theorem dX12_goes_117 : decode cX12_goes 117 = .ok (.goto 4, 3) := by decide +kernel
theorem dX12_goes_120 : decode cX12_goes 120 = .ok (.iconst 0, 1) := by decide +kernel
theorem dX12_goes_121 : decode cX12_goes 121 = .ok (.iadd, 1) := by decide +kernel
theorem dX12_goes_122 : decode cX12_goes 122 = .ok (.putfield 344, 3) := by decide +kernel
theorem dX12_goes_125 : decode cX12_goes 125 = .ok (.aload_n 0, 1) := by decide +kernel
theorem dX12_goes_126 : decode cX12_goes 126 = .ok (.dup, 1) := by decide +kernel
theorem dX12_goes_127 : decode cX12_goes 127 = .ok (.getfield 211, 3) := by decide +kernel
theorem dX12_goes_130 : decode cX12_goes 130 = .ok (.iload 4, 2) := by decide +kernel
theorem dX12_goes_132 : decode cX12_goes 132 = .ok (.ifCond .eq 7, 3) := by decide +kernel
theorem dX12_goes_135 : decode cX12_goes 135 = .ok (.iconst 0, 1) := by decide +kernel
theorem dX12_goes_136 : decode cX12_goes 136 = .ok (.goto 4, 3) := by decide +kernel
theorem dX12_goes_139 : decode cX12_goes 139 = .ok (.iconst 1, 1) := by decide +kernel
theorem dX12_goes_140 : decode cX12_goes 140 = .ok (.iadd, 1) := by decide +kernel
theorem dX12_goes_141 : decode cX12_goes 141 = .ok (.putfield 211, 3) := by decide +kernel
theorem dX12_goes_144 : decode cX12_goes 144 = .ok (.aload_n 0, 1) := by decide +kernel
theorem dX12_goes_145 : decode cX12_goes 145 = .ok (.getfield 64, 3) := by decide +kernel
theorem dX12_goes_148 : decode cX12_goes 148 = .ok (.iload_n 3, 1) := by decide +kernel
theorem dX12_goes_149 : decode cX12_goes 149 = .ok (.aaload, 1) := by decide +kernel
theorem dX12_goes_150 : decode cX12_goes 150 = .ok (.iconst 3, 1) := by decide +kernel
theorem dX12_goes_151 : decode cX12_goes 151 = .ok (.iaload, 1) := by decide +kernel
theorem dX12_goes_152 : decode cX12_goes 152 = .ok (.istore_n 3, 1) := by decide +kernel
theorem dX12_goes_153 : decode cX12_goes 153 = .ok (.goto (-151), 3) := by decide +kernel
theorem dX12_goes_156 : decode cX12_goes 156 = .ok (.return_, 1) := by decide +kernel
theorem dX12_work_0 : decode cX12_work 0 = .ok (.aload_n 0, 1) := by decide +kernel
theorem dX12_work_1 : decode cX12_work 1 = .ok (.iconst 0, 1) := by decide +kernel
theorem dX12_work_2 : decode cX12_work 2 = .ok (.putfield 103, 3) := by decide +kernel
theorem dX12_work_5 : decode cX12_work 5 = .ok (.aload_n 0, 1) := by decide +kernel
theorem dX12_work_6 : decode cX12_work 6 = .ok (.iload_n 1, 1) := by decide +kernel
theorem dX12_work_7 : decode cX12_work 7 = .ok (.iconst 0, 1) := by decide +kernel
theorem dX12_work_8 : decode cX12_work 8 = .ok (.aload_n 0, 1) := by decide +kernel
theorem dX12_work_9 : decode cX12_work 9 = .ok (.getfield 106, 3) := by decide +kernel
theorem dX12_work_12 : decode cX12_work 12 = .ok (.invokestatic 137, 3) := by decide +kernel
theorem dX12_work_15 : decode cX12_work 15 = .ok (.ifCond .eq 10, 3) := by decide +kernel
theorem dX12_work_18 : decode cX12_work 18 = .ok (.iload_n 1, 1) := by decide +kernel
theorem dX12_work_19 : decode cX12_work 19 = .ok (.sipush 150, 3) := by decide +kernel
theorem dX12_work_22 : decode cX12_work 22 = .ok (.if_icmp .le 7, 3) := by decide +kernel
theorem dX12_work_25 : decode cX12_work 25 = .ok (.iconst 1, 1) := by decide +kernel
theorem dX12_work_26 : decode cX12_work 26 = .ok (.goto 4, 3) := by decide +kernel
theorem dX12_work_29 : decode cX12_work 29 = .ok (.iconst 0, 1) := by decide +kernel
theorem dX12_work_30 : decode cX12_work 30 = .ok (.iconst 1, 1) := by decide +kernel
theorem dX12_work_31 : decode cX12_work 31 = .ok (.iconst 1, 1) := by decide +kernel
theorem dX12_work_32 : decode cX12_work 32 = .ok (.invokevirtual 182, 3) := by decide +kernel
theorem dX12_work_35 : decode cX12_work 35 = .ok (.ifCond .eq 5, 3) := by decide +kernel
theorem dX12_work_38 : decode cX12_work 38 = .ok (.iconst 0, 1) := by decide +kernel
theorem dX12_work_39 : decode cX12_work 39 = .ok (.ireturn, 1) := by decide +kernel
theorem dX12_work_40 : decode cX12_work 40 = .ok (.aload_n 0, 1) := by decide +kernel
theorem dX12_work_41 : decode cX12_work 41 = .ok (.getfield 208, 3) := by decide +kernel
theorem dX12_work_44 : decode cX12_work 44 = .ok (.bipush 16, 2) := by decide +kernel
theorem dX12_work_46 : decode cX12_work 46 = .ok (.if_icmp .ne 16, 3) := by decide +kernel
theorem dX12_work_49 : decode cX12_work 49 = .ok (.aload_n 0, 1) := by decide +kernel
theorem dX12_work_50 : decode cX12_work 50 = .ok (.iconst 0, 1) := by decide +kernel
theorem dX12_work_51 : decode cX12_work 51 = .ok (.putfield 106, 3) := by decide +kernel
theorem dX12_work_54 : decode cX12_work 54 = .ok (.aload_n 0, 1) := by decide +kernel
theorem dX12_work_55 : decode cX12_work 55 = .ok (.iconst (-1), 1) := by decide +kernel
theorem dX12_work_56 : decode cX12_work 56 = .ok (.putfield 9, 3) := by decide +kernel
theorem dX12_work_59 : decode cX12_work 59 = .ok (.bipush (-20), 2) := by decide +kernel
theorem dX12_work_61 : decode cX12_work 61 = .ok (.ireturn, 1) := by decide +kernel
theorem dX12_work_62 : decode cX12_work 62 = .ok (.aload_n 0, 1) := by decide +kernel
theorem dX12_work_63 : decode cX12_work 63 = .ok (.iload_n 1, 1) := by decide +kernel
theorem dX12_work_64 : decode cX12_work 64 = .ok (.invokevirtual 186, 3) := by decide +kernel
theorem dX12_work_67 : decode cX12_work 67 = .ok (.aload_n 0, 1) := by decide +kernel
theorem dX12_work_68 : decode cX12_work 68 = .ok (.iconst 0, 1) := by decide +kernel
theorem dX12_work_69 : decode cX12_work 69 = .ok (.putfield 258, 3) := by decide +kernel
theorem dX12_work_72 : decode cX12_work 72 = .ok (.aload_n 0, 1) := by decide +kernel
theorem dX12_work_73 : decode cX12_work 73 = .ok (.getfield 119, 3) := by decide +kernel
theorem dX12_work_76 : decode cX12_work 76 = .ok (.ifCond .ne 25, 3) := by decide +kernel
theorem dX12_work_79 : decode cX12_work 79 = .ok (.aload_n 0, 1) := by decide +kernel
theorem dX12_work_80 : decode cX12_work 80 = .ok (.getfield 112, 3) := by decide +kernel
theorem dX12_work_83 : decode cX12_work 83 = .ok (.aload_n 0, 1) := by decide +kernel
theorem dX12_work_84 : decode cX12_work 84 = .ok (.getfield 109, 3) := by decide +kernel
theorem dX12_work_87 : decode cX12_work 87 = .ok (.if_icmp .ge 14, 3) := by decide +kernel
theorem dX12_work_90 : decode cX12_work 90 = .ok (.aload_n 0, 1) := by decide +kernel
theorem dX12_work_91 : decode cX12_work 91 = .ok (.invokevirtual 261, 3) := by decide +kernel
theorem dX12_work_94 : decode cX12_work 94 = .ok (.aload_n 0, 1) := by decide +kernel
theorem dX12_work_95 : decode cX12_work 95 = .ok (.invokevirtual 125, 3) := by decide +kernel
theorem dX12_work_98 : decode cX12_work 98 = .ok (.goto (-26), 3) := by decide +kernel
theorem dX12_work_101 : decode cX12_work 101 = .ok (.aload_n 0, 1) := by decide +kernel
theorem dX12_work_102 : decode cX12_work 102 = .ok (.getfield 119, 3) := by decide +kernel
theorem dX12_work_105 : decode cX12_work 105 = .ok (.ifCond .eq 8, 3) := by decide +kernel
theorem dX12_work_108 : decode cX12_work 108 = .ok (.aload_n 0, 1) := by decide +kernel
theorem dX12_work_109 : decode cX12_work 109 = .ok (.invokevirtual 192, 3) := by decide +kernel
theorem dX12_work_112 : decode cX12_work 112 = .ok (.ireturn, 1) := by decide +kernel
theorem dX12_work_113 : decode cX12_work 113 = .ok (.aload_n 0, 1) := by decide +kernel
theorem dX12_work_114 : decode cX12_work 114 = .ok (.iconst (-1), 1) := by decide +kernel
theorem dX12_work_115 : decode cX12_work 115 = .ok (.putfield 9, 3) := by decide +kernel
theorem dX12_work_118 : decode cX12_work 118 = .ok (.aload_n 0, 1) := by decide +kernel
theorem dX12_work_119 : decode cX12_work 119 = .ok (.getfield 67, 3) := by decide +kernel
theorem dX12_work_122 : decode cX12_work 122 = .ok (.aload_n 0, 1) := by decide +kernel
theorem dX12_work_123 : decode cX12_work 123 = .ok (.getfield 76, 3) := by decide +kernel
theorem dX12_work_126 : decode cX12_work 126 = .ok (.aload_n 0, 1) := by decide +kernel
theorem dX12_work_127 : decode cX12_work 127 = .ok (.getfield 208, 3) := by decide +kernel
theorem dX12_work_130 : decode cX12_work 130 = .ok (.aaload, 1) := by decide +kernel
theorem dX12_work_131 : decode cX12_work 131 = .ok (.invokestatic 347, 3) := by decide +kernel
theorem dX12_work_134 : decode cX12_work 134 = .ok (.aload_n 0, 1) := by decide +kernel
theorem dX12_work_135 : decode cX12_work 135 = .ok (.dup, 1) := by decide +kernel
theorem dX12_work_136 : decode cX12_work 136 = .ok (.getfield 208, 3) := by decide +kernel
theorem dX12_work_139 : decode cX12_work 139 = .ok (.iconst 1, 1) := by decide +kernel
theorem dX12_work_140 : decode cX12_work 140 = .ok (.iadd, 1) := by decide +kernel
theorem dX12_work_141 : decode cX12_work 141 = .ok (.putfield 208, 3) := by decide +kernel
theorem dX12_work_144 : decode cX12_work 144 = .ok (.aload_n 0, 1) := by decide +kernel
theorem dX12_work_145 : decode cX12_work 145 = .ok (.iconst 0, 1) := by decide +kernel
theorem dX12_work_146 : decode cX12_work 146 = .ok (.putfield 334, 3) := by decide +kernel
theorem dX12_work_149 : decode cX12_work 149 = .ok (.aload_n 0, 1) := by decide +kernel
theorem dX12_work_150 : decode cX12_work 150 = .ok (.iconst 0, 1) := by decide +kernel
theorem dX12_work_151 : decode cX12_work 151 = .ok (.putfield 344, 3) := by decide +kernel
theorem dX12_work_154 : decode cX12_work 154 = .ok (.aload_n 0, 1) := by decide +kernel
theorem dX12_work_155 : decode cX12_work 155 = .ok (.iconst 0, 1) := by decide +kernel
theorem dX12_work_156 : decode cX12_work 156 = .ok (.putfield 211, 3) := by decide +kernel
theorem dX12_work_159 : decode cX12_work 159 = .ok (.aload_n 0, 1) := by decide +kernel
theorem dX12_work_160 : decode cX12_work 160 = .ok (.iconst 0, 1) := by decide +kernel
theorem dX12_work_161 : decode cX12_work 161 = .ok (.aload_n 0, 1) := by decide +kernel
theorem dX12_work_162 : decode cX12_work 162 = .ok (.getfield 258, 3) := by decide +kernel
theorem dX12_work_165 : decode cX12_work 165 = .ok (.invokevirtual 337, 3) := by decide +kernel
theorem dX12_work_168 : decode cX12_work 168 = .ok (.aload_n 0, 1) := by decide +kernel
theorem dX12_work_169 : decode cX12_work 169 = .ok (.getfield 344, 3) := by decide +kernel
theorem dX12_work_172 : decode cX12_work 172 = .ok (.ireturn, 1) := by decide +kernel
theorem dX12_undo_0 : decode cX12_undo 0 = .ok (.aload_n 0, 1) := by decide +kernel
theorem dX12_undo_1 : decode cX12_undo 1 = .ok (.iconst 0, 1) := by decide +kernel
theorem dX12_undo_2 : decode cX12_undo 2 = .ok (.putfield 103, 3) := by decide +kernel
theorem dX12_undo_5 : decode cX12_undo 5 = .ok (.aload_n 0, 1) := by decide +kernel
theorem dX12_undo_6 : decode cX12_undo 6 = .ok (.getfield 208, 3) := by decide +kernel
theorem dX12_undo_9 : decode cX12_undo 9 = .ok (.ifCond .ne 5, 3) := by decide +kernel
theorem dX12_undo_12 : decode cX12_undo 12 = .ok (.iconst (-1), 1) := by decide +kernel
theorem dX12_undo_13 : decode cX12_undo 13 = .ok (.ireturn, 1) := by decide +kernel
theorem dX12_undo_14 : decode cX12_undo 14 = .ok (.aload_n 0, 1) := by decide +kernel
theorem dX12_undo_15 : decode cX12_undo 15 = .ok (.dup, 1) := by decide +kernel
theorem dX12_undo_16 : decode cX12_undo 16 = .ok (.getfield 208, 3) := by decide +kernel
theorem dX12_undo_19 : decode cX12_undo 19 = .ok (.iconst 1, 1) := by decide +kernel
theorem dX12_undo_20 : decode cX12_undo 20 = .ok (.isub, 1) := by decide +kernel
theorem dX12_undo_21 : decode cX12_undo 21 = .ok (.putfield 208, 3) := by decide +kernel
theorem dX12_undo_24 : decode cX12_undo 24 = .ok (.aload_n 0, 1) := by decide +kernel
theorem dX12_undo_25 : decode cX12_undo 25 = .ok (.getfield 76, 3) := by decide +kernel
theorem dX12_undo_28 : decode cX12_undo 28 = .ok (.aload_n 0, 1) := by decide +kernel
theorem dX12_undo_29 : decode cX12_undo 29 = .ok (.getfield 208, 3) := by decide +kernel
theorem dX12_undo_32 : decode cX12_undo 32 = .ok (.aaload, 1) := by decide +kernel
theorem dX12_undo_33 : decode cX12_undo 33 = .ok (.aload_n 0, 1) := by decide +kernel
theorem dX12_undo_34 : decode cX12_undo 34 = .ok (.getfield 67, 3) := by decide +kernel
theorem dX12_undo_37 : decode cX12_undo 37 = .ok (.invokestatic 347, 3) := by decide +kernel
theorem dX12_undo_40 : decode cX12_undo 40 = .ok (.aload_n 0, 1) := by decide +kernel
theorem dX12_undo_41 : decode cX12_undo 41 = .ok (.iconst 0, 1) := by decide +kernel
theorem dX12_undo_42 : decode cX12_undo 42 = .ok (.putfield 211, 3) := by decide +kernel
theorem dX12_undo_45 : decode cX12_undo 45 = .ok (.aload_n 0, 1) := by decide +kernel
theorem dX12_undo_46 : decode cX12_undo 46 = .ok (.getfield 208, 3) := by decide +kernel
theorem dX12_undo_49 : decode cX12_undo 49 = .ok (.ireturn, 1) := by decide +kernel
theorem dX12_liesIn_0 : decode cX12_liesIn 0 = .ok (.iconst 0, 1) := by decide +kernel
theorem dX12_liesIn_1 : decode cX12_liesIn 1 = .ok (.istore_n 2, 1) := by decide +kernel
theorem dX12_liesIn_2 : decode cX12_liesIn 2 = .ok (.iconst 0, 1) := by decide +kernel
theorem dX12_liesIn_3 : decode cX12_liesIn 3 = .ok (.istore_n 3, 1) := by decide +kernel
theorem dX12_liesIn_4 : decode cX12_liesIn 4 = .ok (.iload_n 3, 1) := by decide +kernel
theorem dX12_liesIn_5 : decode cX12_liesIn 5 = .ok (.aload_n 1, 1) := by decide +kernel
theorem dX12_liesIn_6 : decode cX12_liesIn 6 = .ok (.invokestatic 264, 3) := by decide +kernel
theorem dX12_liesIn_9 : decode cX12_liesIn 9 = .ok (.if_icmp .ge 19, 3) := by decide +kernel
theorem dX12_liesIn_12 : decode cX12_liesIn 12 = .ok (.iload_n 2, 1) := by decide +kernel
theorem dX12_liesIn_13 : decode cX12_liesIn 13 = .ok (.iconst 1, 1) := by decide +kernel
theorem dX12_liesIn_14 : decode cX12_liesIn 14 = .ok (.aload_n 1, 1) := by decide +kernel
theorem dX12_liesIn_15 : decode cX12_liesIn 15 = .ok (.iconst 0, 1) := by decide +kernel
theorem dX12_liesIn_16 : decode cX12_liesIn 16 = .ok (.iload_n 3, 1) := by decide +kernel
theorem dX12_liesIn_17 : decode cX12_liesIn 17 = .ok (.iadd, 1) := by decide +kernel
theorem dX12_liesIn_18 : decode cX12_liesIn 18 = .ok (.iaload, 1) := by decide +kernel
theorem dX12_liesIn_19 : decode cX12_liesIn 19 = .ok (.ishl, 1) := by decide +kernel
theorem dX12_liesIn_20 : decode cX12_liesIn 20 = .ok (.ior, 1) := by decide +kernel
theorem dX12_liesIn_21 : decode cX12_liesIn 21 = .ok (.istore_n 2, 1) := by decide +kernel
theorem dX12_liesIn_22 : decode cX12_liesIn 22 = .ok (.iinc 3 1, 3) := by decide +kernel
theorem dX12_liesIn_25 : decode cX12_liesIn 25 = .ok (.goto (-21), 3) := by decide +kernel
theorem dX12_liesIn_28 : decode cX12_liesIn 28 = .ok (.iload_n 2, 1) := by decide +kernel
theorem dX12_liesIn_29 : decode cX12_liesIn 29 = .ok (.ireturn, 1) := by decide +kernel
theorem dX12_outIn_0 : decode cX12_outIn 0 = .ok (.iconst 0, 1) := by decide +kernel
theorem dX12_outIn_1 : decode cX12_outIn 1 = .ok (.istore_n 2, 1) := by decide +kernel
theorem dX12_outIn_2 : decode cX12_outIn 2 = .ok (.iconst 0, 1) := by decide +kernel
theorem dX12_outIn_3 : decode cX12_outIn 3 = .ok (.istore_n 3, 1) := by decide +kernel
theorem dX12_outIn_4 : decode cX12_outIn 4 = .ok (.iload_n 3, 1) := by decide +kernel
theorem dX12_outIn_5 : decode cX12_outIn 5 = .ok (.aload_n 0, 1) := by decide +kernel
theorem dX12_outIn_6 : decode cX12_outIn 6 = .ok (.getfield 23, 3) := by decide +kernel
theorem dX12_outIn_9 : decode cX12_outIn 9 = .ok (.iconst 2, 1) := by decide +kernel
theorem dX12_outIn_10 : decode cX12_outIn 10 = .ok (.iaload, 1) := by decide +kernel
theorem dX12_outIn_11 : decode cX12_outIn 11 = .ok (.if_icmp .ge 29, 3) := by decide +kernel
theorem dX12_outIn_14 : decode cX12_outIn 14 = .ok (.iload_n 2, 1) := by decide +kernel
theorem dX12_outIn_15 : decode cX12_outIn 15 = .ok (.aload_n 1, 1) := by decide +kernel
theorem dX12_outIn_16 : decode cX12_outIn 16 = .ok (.bipush 24, 2) := by decide +kernel
theorem dX12_outIn_18 : decode cX12_outIn 18 = .ok (.iload_n 3, 1) := by decide +kernel
theorem dX12_outIn_19 : decode cX12_outIn 19 = .ok (.iadd, 1) := by decide +kernel
theorem dX12_outIn_20 : decode cX12_outIn 20 = .ok (.iaload, 1) := by decide +kernel
theorem dX12_outIn_21 : decode cX12_outIn 21 = .ok (.iconst (-1), 1) := by decide +kernel
theorem dX12_outIn_22 : decode cX12_outIn 22 = .ok (.if_icmp .ne 7, 3) := by decide +kernel
theorem dX12_outIn_25 : decode cX12_outIn 25 = .ok (.iconst 0, 1) := by decide +kernel
theorem dX12_outIn_26 : decode cX12_outIn 26 = .ok (.goto 6, 3) := by decide +kernel
theorem dX12_outIn_29 : decode cX12_outIn 29 = .ok (.iconst 1, 1) := by decide +kernel
theorem dX12_outIn_30 : decode cX12_outIn 30 = .ok (.iload_n 3, 1) := by decide +kernel
theorem dX12_outIn_31 : decode cX12_outIn 31 = .ok (.ishl, 1) := by decide +kernel
theorem dX12_outIn_32 : decode cX12_outIn 32 = .ok (.ior, 1) := by decide +kernel
theorem dX12_outIn_33 : decode cX12_outIn 33 = .ok (.istore_n 2, 1) := by decide +kernel
theorem dX12_outIn_34 : decode cX12_outIn 34 = .ok (.iinc 3 1, 3) := by decide +kernel
theorem dX12_outIn_37 : decode cX12_outIn 37 = .ok (.goto (-33), 3) := by decide +kernel
theorem dX12_outIn_40 : decode cX12_outIn 40 = .ok (.iload_n 2, 1) := by decide +kernel
theorem dX12_outIn_41 : decode cX12_outIn 41 = .ok (.ireturn, 1) := by decide +kernel
theorem dX12_told_0 : decode cX12_told 0 = .ok (.aload_n 0, 1) := by decide +kernel
theorem dX12_told_1 : decode cX12_told 1 = .ok (.iconst 0, 1) := by decide +kernel
theorem dX12_told_2 : decode cX12_told 2 = .ok (.putfield 103, 3) := by decide +kernel
theorem dX12_told_5 : decode cX12_told 5 = .ok (.aload_n 0, 1) := by decide +kernel
theorem dX12_told_6 : decode cX12_told 6 = .ok (.iload_n 1, 1) := by decide +kernel
theorem dX12_told_7 : decode cX12_told 7 = .ok (.iconst 0, 1) := by decide +kernel
theorem dX12_told_8 : decode cX12_told 8 = .ok (.bipush 11, 2) := by decide +kernel
theorem dX12_told_10 : decode cX12_told 10 = .ok (.invokestatic 137, 3) := by decide +kernel
theorem dX12_told_13 : decode cX12_told 13 = .ok (.ifCond .ne 7, 3) := by decide +kernel
theorem dX12_told_16 : decode cX12_told 16 = .ok (.iconst 1, 1) := by decide +kernel
theorem dX12_told_17 : decode cX12_told 17 = .ok (.goto 4, 3) := by decide +kernel
theorem dX12_told_20 : decode cX12_told 20 = .ok (.iconst 0, 1) := by decide +kernel
theorem dX12_told_21 : decode cX12_told 21 = .ok (.iconst 1, 1) := by decide +kernel
theorem dX12_told_22 : decode cX12_told 22 = .ok (.iconst 1, 1) := by decide +kernel
theorem dX12_told_23 : decode cX12_told 23 = .ok (.invokevirtual 182, 3) := by decide +kernel
theorem dX12_told_26 : decode cX12_told 26 = .ok (.ifCond .eq 5, 3) := by decide +kernel
theorem dX12_told_29 : decode cX12_told 29 = .ok (.iconst 0, 1) := by decide +kernel
theorem dX12_told_30 : decode cX12_told 30 = .ok (.ireturn, 1) := by decide +kernel
theorem dX12_told_31 : decode cX12_told 31 = .ok (.iload_n 1, 1) := by decide +kernel
theorem dX12_told_32 : decode cX12_told 32 = .ok (.tableswitch 129 0 10 #[60, 60, 60, 67, 75, 83, 92, 101, 110, 119, 124], 60) := by decide +kernel
theorem dX12_told_92 : decode cX12_told 92 = .ok (.aload_n 0, 1) := by decide +kernel
theorem dX12_told_93 : decode cX12_told 93 = .ok (.getfield 23, 3) := by decide +kernel
theorem dX12_told_96 : decode cX12_told 96 = .ok (.iload_n 1, 1) := by decide +kernel
theorem dX12_told_97 : decode cX12_told 97 = .ok (.iaload, 1) := by decide +kernel
theorem dX12_told_98 : decode cX12_told 98 = .ok (.ireturn, 1) := by decide +kernel
theorem dX12_told_99 : decode cX12_told 99 = .ok (.aload_n 0, 1) := by decide +kernel
theorem dX12_told_100 : decode cX12_told 100 = .ok (.getfield 67, 3) := by decide +kernel
theorem dX12_told_103 : decode cX12_told 103 = .ok (.bipush 30, 2) := by decide +kernel
theorem dX12_told_105 : decode cX12_told 105 = .ok (.iaload, 1) := by decide +kernel
theorem dX12_told_106 : decode cX12_told 106 = .ok (.ireturn, 1) := by decide +kernel
theorem dX12_told_107 : decode cX12_told 107 = .ok (.aload_n 0, 1) := by decide +kernel
theorem dX12_told_108 : decode cX12_told 108 = .ok (.getfield 67, 3) := by decide +kernel
theorem dX12_told_111 : decode cX12_told 111 = .ok (.invokestatic 264, 3) := by decide +kernel
theorem dX12_told_114 : decode cX12_told 114 = .ok (.ireturn, 1) := by decide +kernel
theorem dX12_told_115 : decode cX12_told 115 = .ok (.aload_n 0, 1) := by decide +kernel
theorem dX12_told_116 : decode cX12_told 116 = .ok (.aload_n 0, 1) := by decide +kernel
theorem dX12_told_117 : decode cX12_told 117 = .ok (.getfield 67, 3) := by decide +kernel
theorem dX12_told_120 : decode cX12_told 120 = .ok (.invokevirtual 351, 3) := by decide +kernel
theorem dX12_told_123 : decode cX12_told 123 = .ok (.ireturn, 1) := by decide +kernel
theorem dX12_told_124 : decode cX12_told 124 = .ok (.aload_n 0, 1) := by decide +kernel
theorem dX12_told_125 : decode cX12_told 125 = .ok (.aload_n 0, 1) := by decide +kernel
theorem dX12_told_126 : decode cX12_told 126 = .ok (.getfield 67, 3) := by decide +kernel
theorem dX12_told_129 : decode cX12_told 129 = .ok (.invokevirtual 297, 3) := by decide +kernel
theorem dX12_told_132 : decode cX12_told 132 = .ok (.ireturn, 1) := by decide +kernel
theorem dX12_told_133 : decode cX12_told 133 = .ok (.aload_n 0, 1) := by decide +kernel
theorem dX12_told_134 : decode cX12_told 134 = .ok (.aload_n 0, 1) := by decide +kernel
theorem dX12_told_135 : decode cX12_told 135 = .ok (.getfield 67, 3) := by decide +kernel
theorem dX12_told_138 : decode cX12_told 138 = .ok (.invokevirtual 300, 3) := by decide +kernel
theorem dX12_told_141 : decode cX12_told 141 = .ok (.ireturn, 1) := by decide +kernel
theorem dX12_told_142 : decode cX12_told 142 = .ok (.aload_n 0, 1) := by decide +kernel
theorem dX12_told_143 : decode cX12_told 143 = .ok (.aload_n 0, 1) := by decide +kernel
theorem dX12_told_144 : decode cX12_told 144 = .ok (.getfield 67, 3) := by decide +kernel
theorem dX12_told_147 : decode cX12_told 147 = .ok (.invokevirtual 354, 3) := by decide +kernel
theorem dX12_told_150 : decode cX12_told 150 = .ok (.ireturn, 1) := by decide +kernel
theorem dX12_told_151 : decode cX12_told 151 = .ok (.aload_n 0, 1) := by decide +kernel
theorem dX12_told_152 : decode cX12_told 152 = .ok (.getfield 205, 3) := by decide +kernel
theorem dX12_told_155 : decode cX12_told 155 = .ok (.ireturn, 1) := by decide +kernel
theorem dX12_told_156 : decode cX12_told 156 = .ok (.aload_n 0, 1) := by decide +kernel
theorem dX12_told_157 : decode cX12_told 157 = .ok (.getfield 211, 3) := by decide +kernel
theorem dX12_told_160 : decode cX12_told 160 = .ok (.ireturn, 1) := by decide +kernel
theorem dX12_told_161 : decode cX12_told 161 = .ok (.aload_n 0, 1) := by decide +kernel
theorem dX12_told_162 : decode cX12_told 162 = .ok (.getfield 67, 3) := by decide +kernel
theorem dX12_told_165 : decode cX12_told 165 = .ok (.bipush 29, 2) := by decide +kernel
theorem dX12_told_167 : decode cX12_told 167 = .ok (.iaload, 1) := by decide +kernel
theorem dX12_told_168 : decode cX12_told 168 = .ok (.ireturn, 1) := by decide +kernel
theorem dX12_isPiece_0 : decode cX12_isPiece 0 = .ok (.iload_n 1, 1) := by decide +kernel
theorem dX12_isPiece_1 : decode cX12_isPiece 1 = .ok (.iconst 0, 1) := by decide +kernel
theorem dX12_isPiece_2 : decode cX12_isPiece 2 = .ok (.aload_n 0, 1) := by decide +kernel
theorem dX12_isPiece_3 : decode cX12_isPiece 3 = .ok (.getfield 23, 3) := by decide +kernel
theorem dX12_isPiece_6 : decode cX12_isPiece 6 = .ok (.iconst 0, 1) := by decide +kernel
theorem dX12_isPiece_7 : decode cX12_isPiece 7 = .ok (.iaload, 1) := by decide +kernel
theorem dX12_isPiece_8 : decode cX12_isPiece 8 = .ok (.iconst 1, 1) := by decide +kernel
theorem dX12_isPiece_9 : decode cX12_isPiece 9 = .ok (.isub, 1) := by decide +kernel
theorem dX12_isPiece_10 : decode cX12_isPiece 10 = .ok (.invokestatic 137, 3) := by decide +kernel
theorem dX12_isPiece_13 : decode cX12_isPiece 13 = .ok (.ireturn, 1) := by decide +kernel
theorem dX12_isFire_0 : decode cX12_isFire 0 = .ok (.iload_n 1, 1) := by decide +kernel
theorem dX12_isFire_1 : decode cX12_isFire 1 = .ok (.iconst 0, 1) := by decide +kernel
theorem dX12_isFire_2 : decode cX12_isFire 2 = .ok (.aload_n 0, 1) := by decide +kernel
theorem dX12_isFire_3 : decode cX12_isFire 3 = .ok (.getfield 23, 3) := by decide +kernel
theorem dX12_isFire_6 : decode cX12_isFire 6 = .ok (.iconst 2, 1) := by decide +kernel
theorem dX12_isFire_7 : decode cX12_isFire 7 = .ok (.iaload, 1) := by decide +kernel
theorem dX12_isFire_8 : decode cX12_isFire 8 = .ok (.iconst 1, 1) := by decide +kernel
theorem dX12_isFire_9 : decode cX12_isFire 9 = .ok (.isub, 1) := by decide +kernel
theorem dX12_isFire_10 : decode cX12_isFire 10 = .ok (.invokestatic 137, 3) := by decide +kernel
theorem dX12_isFire_13 : decode cX12_isFire 13 = .ok (.ireturn, 1) := by decide +kernel
theorem dX12_isThread_0 : decode cX12_isThread 0 = .ok (.iload_n 0, 1) := by decide +kernel
theorem dX12_isThread_1 : decode cX12_isThread 1 = .ok (.iconst 0, 1) := by decide +kernel
theorem dX12_isThread_2 : decode cX12_isThread 2 = .ok (.bipush 9, 2) := by decide +kernel
theorem dX12_isThread_4 : decode cX12_isThread 4 = .ok (.invokestatic 137, 3) := by decide +kernel
theorem dX12_isThread_7 : decode cX12_isThread 7 = .ok (.ireturn, 1) := by decide +kernel
theorem dX12_piece_0 : decode cX12_piece 0 = .ok (.aload_n 0, 1) := by decide +kernel
theorem dX12_piece_1 : decode cX12_piece 1 = .ok (.iconst 0, 1) := by decide +kernel
theorem dX12_piece_2 : decode cX12_piece 2 = .ok (.putfield 103, 3) := by decide +kernel
theorem dX12_piece_5 : decode cX12_piece 5 = .ok (.aload_n 0, 1) := by decide +kernel
theorem dX12_piece_6 : decode cX12_piece 6 = .ok (.aload_n 0, 1) := by decide +kernel
theorem dX12_piece_7 : decode cX12_piece 7 = .ok (.iload_n 1, 1) := by decide +kernel
theorem dX12_piece_8 : decode cX12_piece 8 = .ok (.invokevirtual 357, 3) := by decide +kernel
theorem dX12_piece_11 : decode cX12_piece 11 = .ok (.ifCond .ne 7, 3) := by decide +kernel
theorem dX12_piece_14 : decode cX12_piece 14 = .ok (.iconst 1, 1) := by decide +kernel
theorem dX12_piece_15 : decode cX12_piece 15 = .ok (.goto 4, 3) := by decide +kernel
theorem dX12_piece_18 : decode cX12_piece 18 = .ok (.iconst 0, 1) := by decide +kernel
theorem dX12_piece_19 : decode cX12_piece 19 = .ok (.iconst 1, 1) := by decide +kernel
theorem dX12_piece_20 : decode cX12_piece 20 = .ok (.iconst 0, 1) := by decide +kernel
theorem dX12_piece_21 : decode cX12_piece 21 = .ok (.invokevirtual 182, 3) := by decide +kernel
theorem dX12_piece_24 : decode cX12_piece 24 = .ok (.ifCond .ne 27, 3) := by decide +kernel
theorem dX12_piece_27 : decode cX12_piece 27 = .ok (.aload_n 0, 1) := by decide +kernel
theorem dX12_piece_28 : decode cX12_piece 28 = .ok (.iload_n 2, 1) := by decide +kernel
theorem dX12_piece_29 : decode cX12_piece 29 = .ok (.iconst 0, 1) := by decide +kernel
theorem dX12_piece_30 : decode cX12_piece 30 = .ok (.bipush 7, 2) := by decide +kernel
theorem dX12_piece_32 : decode cX12_piece 32 = .ok (.invokestatic 137, 3) := by decide +kernel
theorem dX12_piece_35 : decode cX12_piece 35 = .ok (.ifCond .ne 7, 3) := by decide +kernel
theorem dX12_piece_38 : decode cX12_piece 38 = .ok (.iconst 1, 1) := by decide +kernel
theorem dX12_piece_39 : decode cX12_piece 39 = .ok (.goto 4, 3) := by decide +kernel
theorem dX12_piece_42 : decode cX12_piece 42 = .ok (.iconst 0, 1) := by decide +kernel
theorem dX12_piece_43 : decode cX12_piece 43 = .ok (.iconst 2, 1) := by decide +kernel
theorem dX12_piece_44 : decode cX12_piece 44 = .ok (.iconst 1, 1) := by decide +kernel
theorem dX12_piece_45 : decode cX12_piece 45 = .ok (.invokevirtual 182, 3) := by decide +kernel
theorem dX12_piece_48 : decode cX12_piece 48 = .ok (.ifCond .eq 5, 3) := by decide +kernel
theorem dX12_piece_51 : decode cX12_piece 51 = .ok (.iconst 0, 1) := by decide +kernel
theorem dX12_piece_52 : decode cX12_piece 52 = .ok (.ireturn, 1) := by decide +kernel
theorem dX12_piece_53 : decode cX12_piece 53 = .ok (.iload_n 2, 1) := by decide +kernel
theorem dX12_piece_54 : decode cX12_piece 54 = .ok (.tableswitch 120 0 6 #[42, 51, 66, 81, 90, 100, 110], 42) := by decide +kernel
theorem dX12_piece_96 : decode cX12_piece 96 = .ok (.aload_n 0, 1) := by decide +kernel
theorem dX12_piece_97 : decode cX12_piece 97 = .ok (.getfield 31, 3) := by decide +kernel
theorem dX12_piece_100 : decode cX12_piece 100 = .ok (.iload_n 1, 1) := by decide +kernel
theorem dX12_piece_101 : decode cX12_piece 101 = .ok (.aaload, 1) := by decide +kernel
theorem dX12_piece_102 : decode cX12_piece 102 = .ok (.iconst 0, 1) := by decide +kernel
theorem dX12_piece_103 : decode cX12_piece 103 = .ok (.iaload, 1) := by decide +kernel
theorem dX12_piece_104 : decode cX12_piece 104 = .ok (.ireturn, 1) := by decide +kernel
theorem dX12_piece_105 : decode cX12_piece 105 = .ok (.aload_n 0, 1) := by decide +kernel
theorem dX12_piece_106 : decode cX12_piece 106 = .ok (.iload_n 1, 1) := by decide +kernel
theorem dX12_piece_107 : decode cX12_piece 107 = .ok (.aload_n 0, 1) := by decide +kernel
theorem dX12_piece_108 : decode cX12_piece 108 = .ok (.getfield 67, 3) := by decide +kernel
theorem dX12_piece_111 : decode cX12_piece 111 = .ok (.bipush 6, 2) := by decide +kernel
theorem dX12_piece_113 : decode cX12_piece 113 = .ok (.iload_n 1, 1) := by decide +kernel
theorem dX12_piece_114 : decode cX12_piece 114 = .ok (.iadd, 1) := by decide +kernel
theorem dX12_piece_115 : decode cX12_piece 115 = .ok (.iaload, 1) := by decide +kernel
theorem dX12_piece_116 : decode cX12_piece 116 = .ok (.invokevirtual 275, 3) := by decide +kernel
theorem dX12_piece_119 : decode cX12_piece 119 = .ok (.ireturn, 1) := by decide +kernel
theorem dX12_piece_120 : decode cX12_piece 120 = .ok (.aload_n 0, 1) := by decide +kernel
theorem dX12_piece_121 : decode cX12_piece 121 = .ok (.iload_n 1, 1) := by decide +kernel
theorem dX12_piece_122 : decode cX12_piece 122 = .ok (.aload_n 0, 1) := by decide +kernel
theorem dX12_piece_123 : decode cX12_piece 123 = .ok (.getfield 67, 3) := by decide +kernel
theorem dX12_piece_126 : decode cX12_piece 126 = .ok (.bipush 6, 2) := by decide +kernel
theorem dX12_piece_128 : decode cX12_piece 128 = .ok (.iload_n 1, 1) := by decide +kernel
theorem dX12_piece_129 : decode cX12_piece 129 = .ok (.iadd, 1) := by decide +kernel
theorem dX12_piece_130 : decode cX12_piece 130 = .ok (.iaload, 1) := by decide +kernel
theorem dX12_piece_131 : decode cX12_piece 131 = .ok (.invokevirtual 272, 3) := by decide +kernel
theorem dX12_piece_134 : decode cX12_piece 134 = .ok (.ireturn, 1) := by decide +kernel
theorem dX12_piece_135 : decode cX12_piece 135 = .ok (.aload_n 0, 1) := by decide +kernel
theorem dX12_piece_136 : decode cX12_piece 136 = .ok (.getfield 31, 3) := by decide +kernel
theorem dX12_piece_139 : decode cX12_piece 139 = .ok (.iload_n 1, 1) := by decide +kernel
theorem dX12_piece_140 : decode cX12_piece 140 = .ok (.aaload, 1) := by decide +kernel
theorem dX12_piece_141 : decode cX12_piece 141 = .ok (.iconst 3, 1) := by decide +kernel
theorem dX12_piece_142 : decode cX12_piece 142 = .ok (.iaload, 1) := by decide +kernel
theorem dX12_piece_143 : decode cX12_piece 143 = .ok (.ireturn, 1) := by decide +kernel
theorem dX12_piece_144 : decode cX12_piece 144 = .ok (.aload_n 0, 1) := by decide +kernel
theorem dX12_piece_145 : decode cX12_piece 145 = .ok (.getfield 67, 3) := by decide +kernel
theorem dX12_piece_148 : decode cX12_piece 148 = .ok (.bipush 12, 2) := by decide +kernel
theorem dX12_piece_150 : decode cX12_piece 150 = .ok (.iload_n 1, 1) := by decide +kernel
theorem dX12_piece_151 : decode cX12_piece 151 = .ok (.iadd, 1) := by decide +kernel
theorem dX12_piece_152 : decode cX12_piece 152 = .ok (.iaload, 1) := by decide +kernel
theorem dX12_piece_153 : decode cX12_piece 153 = .ok (.ireturn, 1) := by decide +kernel
theorem dX12_piece_154 : decode cX12_piece 154 = .ok (.aload_n 0, 1) := by decide +kernel
theorem dX12_piece_155 : decode cX12_piece 155 = .ok (.getfield 67, 3) := by decide +kernel
theorem dX12_piece_158 : decode cX12_piece 158 = .ok (.bipush 18, 2) := by decide +kernel
theorem dX12_piece_160 : decode cX12_piece 160 = .ok (.iload_n 1, 1) := by decide +kernel
theorem dX12_piece_161 : decode cX12_piece 161 = .ok (.iadd, 1) := by decide +kernel
theorem dX12_piece_162 : decode cX12_piece 162 = .ok (.iaload, 1) := by decide +kernel
theorem dX12_piece_163 : decode cX12_piece 163 = .ok (.ireturn, 1) := by decide +kernel
theorem dX12_piece_164 : decode cX12_piece 164 = .ok (.aload_n 0, 1) := by decide +kernel
theorem dX12_piece_165 : decode cX12_piece 165 = .ok (.getfield 67, 3) := by decide +kernel
theorem dX12_piece_168 : decode cX12_piece 168 = .ok (.bipush 6, 2) := by decide +kernel
theorem dX12_piece_170 : decode cX12_piece 170 = .ok (.iload_n 1, 1) := by decide +kernel
theorem dX12_piece_171 : decode cX12_piece 171 = .ok (.iadd, 1) := by decide +kernel
theorem dX12_piece_172 : decode cX12_piece 172 = .ok (.iaload, 1) := by decide +kernel
theorem dX12_piece_173 : decode cX12_piece 173 = .ok (.ireturn, 1) := by decide +kernel
theorem dX12_piece_174 : decode cX12_piece 174 = .ok (.aload_n 0, 1) := by decide +kernel
theorem dX12_piece_175 : decode cX12_piece 175 = .ok (.getfield 67, 3) := by decide +kernel
theorem dX12_piece_178 : decode cX12_piece 178 = .ok (.iload_n 1, 1) := by decide +kernel
theorem dX12_piece_179 : decode cX12_piece 179 = .ok (.invokestatic 268, 3) := by decide +kernel
theorem dX12_piece_182 : decode cX12_piece 182 = .ok (.ireturn, 1) := by decide +kernel
theorem dX12_collar_0 : decode cX12_collar 0 = .ok (.aload_n 0, 1) := by decide +kernel
theorem dX12_collar_1 : decode cX12_collar 1 = .ok (.iconst 0, 1) := by decide +kernel
theorem dX12_collar_2 : decode cX12_collar 2 = .ok (.putfield 103, 3) := by decide +kernel
theorem dX12_collar_5 : decode cX12_collar 5 = .ok (.aload_n 0, 1) := by decide +kernel
theorem dX12_collar_6 : decode cX12_collar 6 = .ok (.iload_n 1, 1) := by decide +kernel
theorem dX12_collar_7 : decode cX12_collar 7 = .ok (.iconst 0, 1) := by decide +kernel
theorem dX12_collar_8 : decode cX12_collar 8 = .ok (.aload_n 0, 1) := by decide +kernel
theorem dX12_collar_9 : decode cX12_collar 9 = .ok (.getfield 23, 3) := by decide +kernel
theorem dX12_collar_12 : decode cX12_collar 12 = .ok (.iconst 1, 1) := by decide +kernel
theorem dX12_collar_13 : decode cX12_collar 13 = .ok (.iaload, 1) := by decide +kernel
theorem dX12_collar_14 : decode cX12_collar 14 = .ok (.iconst 1, 1) := by decide +kernel
theorem dX12_collar_15 : decode cX12_collar 15 = .ok (.isub, 1) := by decide +kernel
theorem dX12_collar_16 : decode cX12_collar 16 = .ok (.invokestatic 137, 3) := by decide +kernel
theorem dX12_collar_19 : decode cX12_collar 19 = .ok (.ifCond .ne 7, 3) := by decide +kernel
theorem dX12_collar_22 : decode cX12_collar 22 = .ok (.iconst 1, 1) := by decide +kernel
theorem dX12_collar_23 : decode cX12_collar 23 = .ok (.goto 4, 3) := by decide +kernel
theorem dX12_collar_26 : decode cX12_collar 26 = .ok (.iconst 0, 1) := by decide +kernel
theorem dX12_collar_27 : decode cX12_collar 27 = .ok (.iconst 1, 1) := by decide +kernel
theorem dX12_collar_28 : decode cX12_collar 28 = .ok (.iconst 0, 1) := by decide +kernel
theorem dX12_collar_29 : decode cX12_collar 29 = .ok (.invokevirtual 182, 3) := by decide +kernel
theorem dX12_collar_32 : decode cX12_collar 32 = .ok (.ifCond .ne 26, 3) := by decide +kernel
theorem dX12_collar_35 : decode cX12_collar 35 = .ok (.aload_n 0, 1) := by decide +kernel
theorem dX12_collar_36 : decode cX12_collar 36 = .ok (.iload_n 2, 1) := by decide +kernel
theorem dX12_collar_37 : decode cX12_collar 37 = .ok (.iconst 0, 1) := by decide +kernel
theorem dX12_collar_38 : decode cX12_collar 38 = .ok (.iconst 1, 1) := by decide +kernel
theorem dX12_collar_39 : decode cX12_collar 39 = .ok (.invokestatic 137, 3) := by decide +kernel
theorem dX12_collar_42 : decode cX12_collar 42 = .ok (.ifCond .ne 7, 3) := by decide +kernel
theorem dX12_collar_45 : decode cX12_collar 45 = .ok (.iconst 1, 1) := by decide +kernel
theorem dX12_collar_46 : decode cX12_collar 46 = .ok (.goto 4, 3) := by decide +kernel
theorem dX12_collar_49 : decode cX12_collar 49 = .ok (.iconst 0, 1) := by decide +kernel
theorem dX12_collar_50 : decode cX12_collar 50 = .ok (.iconst 2, 1) := by decide +kernel
theorem dX12_collar_51 : decode cX12_collar 51 = .ok (.iconst 1, 1) := by decide +kernel
theorem dX12_collar_52 : decode cX12_collar 52 = .ok (.invokevirtual 182, 3) := by decide +kernel
theorem dX12_collar_55 : decode cX12_collar 55 = .ok (.ifCond .eq 5, 3) := by decide +kernel
theorem dX12_collar_58 : decode cX12_collar 58 = .ok (.iconst 0, 1) := by decide +kernel
theorem dX12_collar_59 : decode cX12_collar 59 = .ok (.ireturn, 1) := by decide +kernel
theorem dX12_collar_60 : decode cX12_collar 60 = .ok (.aload_n 0, 1) := by decide +kernel
theorem dX12_collar_61 : decode cX12_collar 61 = .ok (.getfield 37, 3) := by decide +kernel
theorem dX12_collar_64 : decode cX12_collar 64 = .ok (.iload_n 1, 1) := by decide +kernel
theorem dX12_collar_65 : decode cX12_collar 65 = .ok (.aaload, 1) := by decide +kernel
theorem dX12_collar_66 : decode cX12_collar 66 = .ok (.iload_n 2, 1) := by decide +kernel
theorem dX12_collar_67 : decode cX12_collar 67 = .ok (.iaload, 1) := by decide +kernel
theorem dX12_collar_68 : decode cX12_collar 68 = .ok (.ireturn, 1) := by decide +kernel
theorem dX12_fire_0 : decode cX12_fire 0 = .ok (.aload_n 0, 1) := by decide +kernel
theorem dX12_fire_1 : decode cX12_fire 1 = .ok (.iconst 0, 1) := by decide +kernel
theorem dX12_fire_2 : decode cX12_fire 2 = .ok (.putfield 103, 3) := by decide +kernel
theorem dX12_fire_5 : decode cX12_fire 5 = .ok (.aload_n 0, 1) := by decide +kernel
theorem dX12_fire_6 : decode cX12_fire 6 = .ok (.aload_n 0, 1) := by decide +kernel
theorem dX12_fire_7 : decode cX12_fire 7 = .ok (.iload_n 1, 1) := by decide +kernel
theorem dX12_fire_8 : decode cX12_fire 8 = .ok (.invokevirtual 360, 3) := by decide +kernel
theorem dX12_fire_11 : decode cX12_fire 11 = .ok (.ifCond .ne 7, 3) := by decide +kernel
theorem dX12_fire_14 : decode cX12_fire 14 = .ok (.iconst 1, 1) := by decide +kernel
theorem dX12_fire_15 : decode cX12_fire 15 = .ok (.goto 4, 3) := by decide +kernel
theorem dX12_fire_18 : decode cX12_fire 18 = .ok (.iconst 0, 1) := by decide +kernel
theorem dX12_fire_19 : decode cX12_fire 19 = .ok (.iconst 1, 1) := by decide +kernel
theorem dX12_fire_20 : decode cX12_fire 20 = .ok (.iconst 0, 1) := by decide +kernel
theorem dX12_fire_21 : decode cX12_fire 21 = .ok (.invokevirtual 182, 3) := by decide +kernel
theorem dX12_fire_24 : decode cX12_fire 24 = .ok (.ifCond .ne 26, 3) := by decide +kernel
theorem dX12_fire_27 : decode cX12_fire 27 = .ok (.aload_n 0, 1) := by decide +kernel
theorem dX12_fire_28 : decode cX12_fire 28 = .ok (.iload_n 2, 1) := by decide +kernel
theorem dX12_fire_29 : decode cX12_fire 29 = .ok (.iconst 0, 1) := by decide +kernel
theorem dX12_fire_30 : decode cX12_fire 30 = .ok (.iconst 3, 1) := by decide +kernel
theorem dX12_fire_31 : decode cX12_fire 31 = .ok (.invokestatic 137, 3) := by decide +kernel
theorem dX12_fire_34 : decode cX12_fire 34 = .ok (.ifCond .ne 7, 3) := by decide +kernel
theorem dX12_fire_37 : decode cX12_fire 37 = .ok (.iconst 1, 1) := by decide +kernel
theorem dX12_fire_38 : decode cX12_fire 38 = .ok (.goto 4, 3) := by decide +kernel
theorem dX12_fire_41 : decode cX12_fire 41 = .ok (.iconst 0, 1) := by decide +kernel
theorem dX12_fire_42 : decode cX12_fire 42 = .ok (.iconst 2, 1) := by decide +kernel
theorem dX12_fire_43 : decode cX12_fire 43 = .ok (.iconst 1, 1) := by decide +kernel
theorem dX12_fire_44 : decode cX12_fire 44 = .ok (.invokevirtual 182, 3) := by decide +kernel
theorem dX12_fire_47 : decode cX12_fire 47 = .ok (.ifCond .eq 5, 3) := by decide +kernel
theorem dX12_fire_50 : decode cX12_fire 50 = .ok (.iconst 0, 1) := by decide +kernel
theorem dX12_fire_51 : decode cX12_fire 51 = .ok (.ireturn, 1) := by decide +kernel
theorem dX12_fire_52 : decode cX12_fire 52 = .ok (.iload_n 2, 1) := by decide +kernel
theorem dX12_fire_53 : decode cX12_fire 53 = .ok (.iconst 2, 1) := by decide +kernel
theorem dX12_fire_54 : decode cX12_fire 54 = .ok (.if_icmp .ge 14, 3) := by decide +kernel
theorem dX12_fire_57 : decode cX12_fire 57 = .ok (.aload_n 0, 1) := by decide +kernel
theorem dX12_fire_58 : decode cX12_fire 58 = .ok (.getfield 43, 3) := by decide +kernel
theorem dX12_fire_61 : decode cX12_fire 61 = .ok (.iload_n 1, 1) := by decide +kernel
theorem dX12_fire_62 : decode cX12_fire 62 = .ok (.aaload, 1) := by decide +kernel
theorem dX12_fire_63 : decode cX12_fire 63 = .ok (.iload_n 2, 1) := by decide +kernel
theorem dX12_fire_64 : decode cX12_fire 64 = .ok (.iaload, 1) := by decide +kernel
theorem dX12_fire_65 : decode cX12_fire 65 = .ok (.goto 37, 3) := by decide +kernel
theorem dX12_fire_68 : decode cX12_fire 68 = .ok (.iload_n 2, 1) := by decide +kernel
theorem dX12_fire_69 : decode cX12_fire 69 = .ok (.iconst 3, 1) := by decide +kernel
theorem dX12_fire_70 : decode cX12_fire 70 = .ok (.if_icmp .ne 15, 3) := by decide +kernel
theorem dX12_fire_73 : decode cX12_fire 73 = .ok (.aload_n 0, 1) := by decide +kernel
theorem dX12_fire_74 : decode cX12_fire 74 = .ok (.getfield 67, 3) := by decide +kernel
theorem dX12_fire_77 : decode cX12_fire 77 = .ok (.bipush 24, 2) := by decide +kernel
theorem dX12_fire_79 : decode cX12_fire 79 = .ok (.iload_n 1, 1) := by decide +kernel
theorem dX12_fire_80 : decode cX12_fire 80 = .ok (.iadd, 1) := by decide +kernel
theorem dX12_fire_81 : decode cX12_fire 81 = .ok (.iaload, 1) := by decide +kernel
theorem dX12_fire_82 : decode cX12_fire 82 = .ok (.goto 20, 3) := by decide +kernel
theorem dX12_fire_85 : decode cX12_fire 85 = .ok (.aload_n 0, 1) := by decide +kernel
theorem dX12_fire_86 : decode cX12_fire 86 = .ok (.aload_n 0, 1) := by decide +kernel
theorem dX12_fire_87 : decode cX12_fire 87 = .ok (.getfield 67, 3) := by decide +kernel
theorem dX12_fire_90 : decode cX12_fire 90 = .ok (.iload_n 1, 1) := by decide +kernel
theorem dX12_fire_91 : decode cX12_fire 91 = .ok (.invokevirtual 303, 3) := by decide +kernel
theorem dX12_fire_94 : decode cX12_fire 94 = .ok (.ifCond .eq 7, 3) := by decide +kernel
theorem dX12_fire_97 : decode cX12_fire 97 = .ok (.iconst 1, 1) := by decide +kernel
theorem dX12_fire_98 : decode cX12_fire 98 = .ok (.goto 4, 3) := by decide +kernel
theorem dX12_fire_101 : decode cX12_fire 101 = .ok (.iconst 0, 1) := by decide +kernel
theorem dX12_fire_102 : decode cX12_fire 102 = .ok (.ireturn, 1) := by decide +kernel
theorem dX12_row_0 : decode cX12_row 0 = .ok (.aload_n 0, 1) := by decide +kernel
theorem dX12_row_1 : decode cX12_row 1 = .ok (.iconst 0, 1) := by decide +kernel
theorem dX12_row_2 : decode cX12_row 2 = .ok (.putfield 103, 3) := by decide +kernel
theorem dX12_row_5 : decode cX12_row 5 = .ok (.aload_n 0, 1) := by decide +kernel
theorem dX12_row_6 : decode cX12_row 6 = .ok (.iload_n 1, 1) := by decide +kernel
theorem dX12_row_7 : decode cX12_row 7 = .ok (.ifCond .ge 7, 3) := by decide +kernel
theorem dX12_row_10 : decode cX12_row 10 = .ok (.iconst 1, 1) := by decide +kernel
theorem dX12_row_11 : decode cX12_row 11 = .ok (.goto 4, 3) := by decide +kernel
theorem dX12_row_14 : decode cX12_row 14 = .ok (.iconst 0, 1) := by decide +kernel
theorem dX12_row_15 : decode cX12_row 15 = .ok (.iconst 1, 1) := by decide +kernel
theorem dX12_row_16 : decode cX12_row 16 = .ok (.iconst 1, 1) := by decide +kernel
theorem dX12_row_17 : decode cX12_row 17 = .ok (.invokevirtual 182, 3) := by decide +kernel
theorem dX12_row_20 : decode cX12_row 20 = .ok (.ifCond .eq 5, 3) := by decide +kernel
theorem dX12_row_23 : decode cX12_row 23 = .ok (.iconst 0, 1) := by decide +kernel
theorem dX12_row_24 : decode cX12_row 24 = .ok (.ireturn, 1) := by decide +kernel
theorem dX12_row_25 : decode cX12_row 25 = .ok (.iload_n 1, 1) := by decide +kernel
theorem dX12_row_26 : decode cX12_row 26 = .ok (.bipush 6, 2) := by decide +kernel
theorem dX12_row_28 : decode cX12_row 28 = .ok (.if_icmp .ge 14, 3) := by decide +kernel
theorem dX12_row_31 : decode cX12_row 31 = .ok (.aload_n 0, 1) := by decide +kernel
theorem dX12_row_32 : decode cX12_row 32 = .ok (.getfield 67, 3) := by decide +kernel
theorem dX12_row_35 : decode cX12_row 35 = .ok (.iconst 0, 1) := by decide +kernel
theorem dX12_row_36 : decode cX12_row 36 = .ok (.iload_n 1, 1) := by decide +kernel
theorem dX12_row_37 : decode cX12_row 37 = .ok (.iadd, 1) := by decide +kernel
theorem dX12_row_38 : decode cX12_row 38 = .ok (.iaload, 1) := by decide +kernel
theorem dX12_row_39 : decode cX12_row 39 = .ok (.goto 4, 3) := by decide +kernel
theorem dX12_row_42 : decode cX12_row 42 = .ok (.iconst (-1), 1) := by decide +kernel
theorem dX12_row_43 : decode cX12_row 43 = .ok (.ireturn, 1) := by decide +kernel
theorem dX12_behind_0 : decode cX12_behind 0 = .ok (.aload_n 0, 1) := by decide +kernel
theorem dX12_behind_1 : decode cX12_behind 1 = .ok (.iconst 0, 1) := by decide +kernel
theorem dX12_behind_2 : decode cX12_behind 2 = .ok (.putfield 103, 3) := by decide +kernel
theorem dX12_behind_5 : decode cX12_behind 5 = .ok (.aload_n 0, 1) := by decide +kernel
theorem dX12_behind_6 : decode cX12_behind 6 = .ok (.iload_n 1, 1) := by decide +kernel
theorem dX12_behind_7 : decode cX12_behind 7 = .ok (.ifCond .ge 7, 3) := by decide +kernel
theorem dX12_behind_10 : decode cX12_behind 10 = .ok (.iconst 1, 1) := by decide +kernel
theorem dX12_behind_11 : decode cX12_behind 11 = .ok (.goto 4, 3) := by decide +kernel
theorem dX12_behind_14 : decode cX12_behind 14 = .ok (.iconst 0, 1) := by decide +kernel
theorem dX12_behind_15 : decode cX12_behind 15 = .ok (.iconst 1, 1) := by decide +kernel
theorem dX12_behind_16 : decode cX12_behind 16 = .ok (.iconst 1, 1) := by decide +kernel
theorem dX12_behind_17 : decode cX12_behind 17 = .ok (.invokevirtual 182, 3) := by decide +kernel
theorem dX12_behind_20 : decode cX12_behind 20 = .ok (.ifCond .eq 5, 3) := by decide +kernel
theorem dX12_behind_23 : decode cX12_behind 23 = .ok (.iconst 0, 1) := by decide +kernel
theorem dX12_behind_24 : decode cX12_behind 24 = .ok (.ireturn, 1) := by decide +kernel
theorem dX12_behind_25 : decode cX12_behind 25 = .ok (.aload_n 0, 1) := by decide +kernel
theorem dX12_behind_26 : decode cX12_behind 26 = .ok (.aload_n 0, 1) := by decide +kernel
theorem dX12_behind_27 : decode cX12_behind 27 = .ok (.getfield 67, 3) := by decide +kernel
theorem dX12_behind_30 : decode cX12_behind 30 = .ok (.invokevirtual 300, 3) := by decide +kernel
theorem dX12_behind_33 : decode cX12_behind 33 = .ok (.pop, 1) := by decide +kernel
theorem dX12_behind_34 : decode cX12_behind 34 = .ok (.iload_n 1, 1) := by decide +kernel
theorem dX12_behind_35 : decode cX12_behind 35 = .ok (.aload_n 0, 1) := by decide +kernel
theorem dX12_behind_36 : decode cX12_behind 36 = .ok (.getfield 67, 3) := by decide +kernel
theorem dX12_behind_39 : decode cX12_behind 39 = .ok (.invokestatic 264, 3) := by decide +kernel
theorem dX12_behind_42 : decode cX12_behind 42 = .ok (.if_icmp .ge 12, 3) := by decide +kernel
theorem dX12_behind_45 : decode cX12_behind 45 = .ok (.aload_n 0, 1) := by decide +kernel
theorem dX12_behind_46 : decode cX12_behind 46 = .ok (.getfield 73, 3) := by decide +kernel
theorem dX12_behind_49 : decode cX12_behind 49 = .ok (.iload_n 1, 1) := by decide +kernel
theorem dX12_behind_50 : decode cX12_behind 50 = .ok (.iaload, 1) := by decide +kernel
theorem dX12_behind_51 : decode cX12_behind 51 = .ok (.goto 4, 3) := by decide +kernel
theorem dX12_behind_54 : decode cX12_behind 54 = .ok (.iconst (-1), 1) := by decide +kernel
theorem dX12_behind_55 : decode cX12_behind 55 = .ok (.ireturn, 1) := by decide +kernel
theorem dX12_would_0 : decode cX12_would 0 = .ok (.aload_n 0, 1) := by decide +kernel
theorem dX12_would_1 : decode cX12_would 1 = .ok (.iconst 0, 1) := by decide +kernel
theorem dX12_would_2 : decode cX12_would 2 = .ok (.putfield 103, 3) := by decide +kernel
theorem dX12_would_5 : decode cX12_would 5 = .ok (.aload_n 0, 1) := by decide +kernel
theorem dX12_would_6 : decode cX12_would 6 = .ok (.iload_n 1, 1) := by decide +kernel
theorem dX12_would_7 : decode cX12_would 7 = .ok (.iconst 0, 1) := by decide +kernel
theorem dX12_would_8 : decode cX12_would 8 = .ok (.bipush 99, 2) := by decide +kernel
theorem dX12_would_10 : decode cX12_would 10 = .ok (.invokestatic 137, 3) := by decide +kernel
theorem dX12_would_13 : decode cX12_would 13 = .ok (.ifCond .eq 86, 3) := by decide +kernel
theorem dX12_would_16 : decode cX12_would 16 = .ok (.iload_n 2, 1) := by decide +kernel
theorem dX12_would_17 : decode cX12_would 17 = .ok (.iconst 0, 1) := by decide +kernel
theorem dX12_would_18 : decode cX12_would 18 = .ok (.bipush 9, 2) := by decide +kernel
theorem dX12_would_20 : decode cX12_would 20 = .ok (.invokestatic 137, 3) := by decide +kernel
theorem dX12_would_23 : decode cX12_would 23 = .ok (.ifCond .eq 76, 3) := by decide +kernel
theorem dX12_would_26 : decode cX12_would 26 = .ok (.iload_n 3, 1) := by decide +kernel
theorem dX12_would_27 : decode cX12_would 27 = .ok (.iconst 1, 1) := by decide +kernel
theorem dX12_would_28 : decode cX12_would 28 = .ok (.bipush 30, 2) := by decide +kernel
theorem dX12_would_30 : decode cX12_would 30 = .ok (.invokestatic 137, 3) := by decide +kernel
theorem dX12_would_33 : decode cX12_would 33 = .ok (.ifCond .eq 66, 3) := by decide +kernel
theorem dX12_would_36 : decode cX12_would 36 = .ok (.iload 4, 2) := by decide +kernel
theorem dX12_would_38 : decode cX12_would 38 = .ok (.iconst 0, 1) := by decide +kernel
theorem dX12_would_39 : decode cX12_would 39 = .ok (.bipush 9, 2) := by decide +kernel
theorem dX12_would_41 : decode cX12_would 41 = .ok (.invokestatic 137, 3) := by decide +kernel
theorem dX12_would_44 : decode cX12_would 44 = .ok (.ifCond .eq 55, 3) := by decide +kernel
theorem dX12_would_47 : decode cX12_would 47 = .ok (.iload 5, 2) := by decide +kernel
theorem dX12_would_49 : decode cX12_would 49 = .ok (.iconst 0, 1) := by decide +kernel
theorem dX12_would_50 : decode cX12_would 50 = .ok (.bipush 9, 2) := by decide +kernel
theorem dX12_would_52 : decode cX12_would 52 = .ok (.invokestatic 137, 3) := by decide +kernel
theorem dX12_would_55 : decode cX12_would 55 = .ok (.ifCond .eq 44, 3) := by decide +kernel
theorem dX12_would_58 : decode cX12_would 58 = .ok (.iload 6, 2) := by decide +kernel
theorem dX12_would_60 : decode cX12_would 60 = .ok (.iconst 0, 1) := by decide +kernel
theorem dX12_would_61 : decode cX12_would 61 = .ok (.iconst 5, 1) := by decide +kernel
theorem dX12_would_62 : decode cX12_would 62 = .ok (.invokestatic 137, 3) := by decide +kernel
theorem dX12_would_65 : decode cX12_would 65 = .ok (.ifCond .eq 34, 3) := by decide +kernel
theorem dX12_would_68 : decode cX12_would 68 = .ok (.iload 7, 2) := by decide +kernel
theorem dX12_would_70 : decode cX12_would 70 = .ok (.iconst 0, 1) := by decide +kernel
theorem dX12_would_71 : decode cX12_would 71 = .ok (.iconst 1, 1) := by decide +kernel
theorem dX12_would_72 : decode cX12_would 72 = .ok (.invokestatic 137, 3) := by decide +kernel
theorem dX12_would_75 : decode cX12_would 75 = .ok (.ifCond .eq 24, 3) := by decide +kernel
theorem dX12_would_78 : decode cX12_would 78 = .ok (.iload 8, 2) := by decide +kernel
theorem dX12_would_80 : decode cX12_would 80 = .ok (.iconst 0, 1) := by decide +kernel
theorem dX12_would_81 : decode cX12_would 81 = .ok (.bipush 99, 2) := by decide +kernel
theorem dX12_would_83 : decode cX12_would 83 = .ok (.invokestatic 137, 3) := by decide +kernel
theorem dX12_would_86 : decode cX12_would 86 = .ok (.ifCond .eq 13, 3) := by decide +kernel
theorem dX12_would_89 : decode cX12_would 89 = .ok (.iload 9, 2) := by decide +kernel
theorem dX12_would_91 : decode cX12_would 91 = .ok (.iconst 0, 1) := by decide +kernel
theorem dX12_would_92 : decode cX12_would 92 = .ok (.iconst 5, 1) := by decide +kernel
theorem dX12_would_93 : decode cX12_would 93 = .ok (.invokestatic 137, 3) := by decide +kernel
theorem dX12_would_96 : decode cX12_would 96 = .ok (.ifCond .ne 7, 3) := by decide +kernel
theorem dX12_would_99 : decode cX12_would 99 = .ok (.iconst 1, 1) := by decide +kernel
theorem dX12_would_100 : decode cX12_would 100 = .ok (.goto 4, 3) := by decide +kernel
theorem dX12_would_103 : decode cX12_would 103 = .ok (.iconst 0, 1) := by decide +kernel
theorem dX12_would_104 : decode cX12_would 104 = .ok (.iconst 1, 1) := by decide +kernel
theorem dX12_would_105 : decode cX12_would 105 = .ok (.iconst 1, 1) := by decide +kernel
theorem dX12_would_106 : decode cX12_would 106 = .ok (.invokevirtual 182, 3) := by decide +kernel
theorem dX12_would_109 : decode cX12_would 109 = .ok (.ifCond .eq 5, 3) := by decide +kernel
theorem dX12_would_112 : decode cX12_would 112 = .ok (.iconst 0, 1) := by decide +kernel
theorem dX12_would_113 : decode cX12_would 113 = .ok (.ireturn, 1) := by decide +kernel
theorem dX12_would_114 : decode cX12_would 114 = .ok (.aload_n 0, 1) := by decide +kernel
theorem dX12_would_115 : decode cX12_would 115 = .ok (.iload_n 1, 1) := by decide +kernel
theorem dX12_would_116 : decode cX12_would 116 = .ok (.iload_n 2, 1) := by decide +kernel
theorem dX12_would_117 : decode cX12_would 117 = .ok (.iload_n 3, 1) := by decide +kernel
theorem dX12_would_118 : decode cX12_would 118 = .ok (.iload 4, 2) := by decide +kernel
theorem dX12_would_120 : decode cX12_would 120 = .ok (.iload 5, 2) := by decide +kernel
theorem dX12_would_122 : decode cX12_would 122 = .ok (.iload 6, 2) := by decide +kernel
theorem dX12_would_124 : decode cX12_would 124 = .ok (.iload 7, 2) := by decide +kernel
theorem dX12_would_126 : decode cX12_would 126 = .ok (.iload 8, 2) := by decide +kernel
theorem dX12_would_128 : decode cX12_would 128 = .ok (.iload 9, 2) := by decide +kernel
theorem dX12_would_130 : decode cX12_would 130 = .ok (.invokevirtual 285, 3) := by decide +kernel
theorem dX12_would_133 : decode cX12_would 133 = .ok (.ireturn, 1) := by decide +kernel
theorem dX12_fits_0 : decode cX12_fits 0 = .ok (.aload_n 0, 1) := by decide +kernel
theorem dX12_fits_1 : decode cX12_fits 1 = .ok (.iconst 0, 1) := by decide +kernel
theorem dX12_fits_2 : decode cX12_fits 2 = .ok (.putfield 103, 3) := by decide +kernel
theorem dX12_fits_5 : decode cX12_fits 5 = .ok (.aload_n 0, 1) := by decide +kernel
theorem dX12_fits_6 : decode cX12_fits 6 = .ok (.iload_n 1, 1) := by decide +kernel
theorem dX12_fits_7 : decode cX12_fits 7 = .ok (.invokestatic 363, 3) := by decide +kernel
theorem dX12_fits_10 : decode cX12_fits 10 = .ok (.ifCond .eq 10, 3) := by decide +kernel
theorem dX12_fits_13 : decode cX12_fits 13 = .ok (.iload_n 2, 1) := by decide +kernel
theorem dX12_fits_14 : decode cX12_fits 14 = .ok (.invokestatic 363, 3) := by decide +kernel
theorem dX12_fits_17 : decode cX12_fits 17 = .ok (.ifCond .ne 7, 3) := by decide +kernel
theorem dX12_fits_20 : decode cX12_fits 20 = .ok (.iconst 1, 1) := by decide +kernel
theorem dX12_fits_21 : decode cX12_fits 21 = .ok (.goto 4, 3) := by decide +kernel
theorem dX12_fits_24 : decode cX12_fits 24 = .ok (.iconst 0, 1) := by decide +kernel
theorem dX12_fits_25 : decode cX12_fits 25 = .ok (.iconst 1, 1) := by decide +kernel
theorem dX12_fits_26 : decode cX12_fits 26 = .ok (.iconst 1, 1) := by decide +kernel
theorem dX12_fits_27 : decode cX12_fits 27 = .ok (.invokevirtual 182, 3) := by decide +kernel
theorem dX12_fits_30 : decode cX12_fits 30 = .ok (.ifCond .eq 5, 3) := by decide +kernel
theorem dX12_fits_33 : decode cX12_fits 33 = .ok (.iconst 0, 1) := by decide +kernel
theorem dX12_fits_34 : decode cX12_fits 34 = .ok (.ireturn, 1) := by decide +kernel
theorem dX12_fits_35 : decode cX12_fits 35 = .ok (.aload_n 0, 1) := by decide +kernel
theorem dX12_fits_36 : decode cX12_fits 36 = .ok (.iload_n 1, 1) := by decide +kernel
theorem dX12_fits_37 : decode cX12_fits 37 = .ok (.iload_n 2, 1) := by decide +kernel
theorem dX12_fits_38 : decode cX12_fits 38 = .ok (.invokevirtual 278, 3) := by decide +kernel
theorem dX12_fits_41 : decode cX12_fits 41 = .ok (.ireturn, 1) := by decide +kernel
theorem dX12_can_0 : decode cX12_can 0 = .ok (.aload_n 0, 1) := by decide +kernel
theorem dX12_can_1 : decode cX12_can 1 = .ok (.iconst 0, 1) := by decide +kernel
theorem dX12_can_2 : decode cX12_can 2 = .ok (.putfield 103, 3) := by decide +kernel
theorem dX12_can_5 : decode cX12_can 5 = .ok (.aload_n 0, 1) := by decide +kernel
theorem dX12_can_6 : decode cX12_can 6 = .ok (.aload_n 0, 1) := by decide +kernel
theorem dX12_can_7 : decode cX12_can 7 = .ok (.iload_n 1, 1) := by decide +kernel
theorem dX12_can_8 : decode cX12_can 8 = .ok (.invokevirtual 357, 3) := by decide +kernel
theorem dX12_can_11 : decode cX12_can 11 = .ok (.ifCond .ne 7, 3) := by decide +kernel
theorem dX12_can_14 : decode cX12_can 14 = .ok (.iconst 1, 1) := by decide +kernel
theorem dX12_can_15 : decode cX12_can 15 = .ok (.goto 4, 3) := by decide +kernel
theorem dX12_can_18 : decode cX12_can 18 = .ok (.iconst 0, 1) := by decide +kernel
theorem dX12_can_19 : decode cX12_can 19 = .ok (.iconst 1, 1) := by decide +kernel
theorem dX12_can_20 : decode cX12_can 20 = .ok (.iconst 0, 1) := by decide +kernel
theorem dX12_can_21 : decode cX12_can 21 = .ok (.invokevirtual 182, 3) := by decide +kernel
theorem dX12_can_24 : decode cX12_can 24 = .ok (.ifCond .eq 5, 3) := by decide +kernel
theorem dX12_can_27 : decode cX12_can 27 = .ok (.iconst 0, 1) := by decide +kernel
theorem dX12_can_28 : decode cX12_can 28 = .ok (.ireturn, 1) := by decide +kernel
theorem dX12_can_29 : decode cX12_can 29 = .ok (.aload_n 0, 1) := by decide +kernel
theorem dX12_can_30 : decode cX12_can 30 = .ok (.aload_n 0, 1) := by decide +kernel
theorem dX12_can_31 : decode cX12_can 31 = .ok (.getfield 67, 3) := by decide +kernel
theorem dX12_can_34 : decode cX12_can 34 = .ok (.iload_n 1, 1) := by decide +kernel
theorem dX12_can_35 : decode cX12_can 35 = .ok (.aload_n 0, 1) := by decide +kernel
theorem dX12_can_36 : decode cX12_can 36 = .ok (.getfield 67, 3) := by decide +kernel
theorem dX12_can_39 : decode cX12_can 39 = .ok (.bipush 6, 2) := by decide +kernel
theorem dX12_can_41 : decode cX12_can 41 = .ok (.iload_n 1, 1) := by decide +kernel
theorem dX12_can_42 : decode cX12_can 42 = .ok (.iadd, 1) := by decide +kernel
theorem dX12_can_43 : decode cX12_can 43 = .ok (.iaload, 1) := by decide +kernel
theorem dX12_can_44 : decode cX12_can 44 = .ok (.invokevirtual 310, 3) := by decide +kernel
theorem dX12_can_47 : decode cX12_can 47 = .ok (.ireturn, 1) := by decide +kernel
theorem dX12_ahead_0 : decode cX12_ahead 0 = .ok (.aload_n 0, 1) := by decide +kernel
theorem dX12_ahead_1 : decode cX12_ahead 1 = .ok (.iconst 0, 1) := by decide +kernel
theorem dX12_ahead_2 : decode cX12_ahead 2 = .ok (.putfield 103, 3) := by decide +kernel
theorem dX12_ahead_5 : decode cX12_ahead 5 = .ok (.aload_n 0, 1) := by decide +kernel
theorem dX12_ahead_6 : decode cX12_ahead 6 = .ok (.iload_n 1, 1) := by decide +kernel
theorem dX12_ahead_7 : decode cX12_ahead 7 = .ok (.iconst 0, 1) := by decide +kernel
theorem dX12_ahead_8 : decode cX12_ahead 8 = .ok (.bipush 99, 2) := by decide +kernel
theorem dX12_ahead_10 : decode cX12_ahead 10 = .ok (.invokestatic 137, 3) := by decide +kernel
theorem dX12_ahead_13 : decode cX12_ahead 13 = .ok (.ifCond .ne 7, 3) := by decide +kernel
theorem dX12_ahead_16 : decode cX12_ahead 16 = .ok (.iconst 1, 1) := by decide +kernel
theorem dX12_ahead_17 : decode cX12_ahead 17 = .ok (.goto 4, 3) := by decide +kernel
theorem dX12_ahead_20 : decode cX12_ahead 20 = .ok (.iconst 0, 1) := by decide +kernel
theorem dX12_ahead_21 : decode cX12_ahead 21 = .ok (.iconst 1, 1) := by decide +kernel
theorem dX12_ahead_22 : decode cX12_ahead 22 = .ok (.iconst 1, 1) := by decide +kernel
theorem dX12_ahead_23 : decode cX12_ahead 23 = .ok (.invokevirtual 182, 3) := by decide +kernel
theorem dX12_ahead_26 : decode cX12_ahead 26 = .ok (.ifCond .eq 5, 3) := by decide +kernel
theorem dX12_ahead_29 : decode cX12_ahead 29 = .ok (.iconst 0, 1) := by decide +kernel
theorem dX12_ahead_30 : decode cX12_ahead 30 = .ok (.ireturn, 1) := by decide +kernel
theorem dX12_ahead_31 : decode cX12_ahead 31 = .ok (.aload_n 0, 1) := by decide +kernel
theorem dX12_ahead_32 : decode cX12_ahead 32 = .ok (.getfield 67, 3) := by decide +kernel
theorem dX12_ahead_35 : decode cX12_ahead 35 = .ok (.aload_n 0, 1) := by decide +kernel
theorem dX12_ahead_36 : decode cX12_ahead 36 = .ok (.getfield 70, 3) := by decide +kernel
theorem dX12_ahead_39 : decode cX12_ahead 39 = .ok (.invokestatic 347, 3) := by decide +kernel
theorem dX12_ahead_42 : decode cX12_ahead 42 = .ok (.iconst 0, 1) := by decide +kernel
theorem dX12_ahead_43 : decode cX12_ahead 43 = .ok (.istore_n 2, 1) := by decide +kernel
theorem dX12_ahead_44 : decode cX12_ahead 44 = .ok (.iload_n 2, 1) := by decide +kernel
theorem dX12_ahead_45 : decode cX12_ahead 45 = .ok (.iload_n 1, 1) := by decide +kernel
theorem dX12_ahead_46 : decode cX12_ahead 46 = .ok (.if_icmp .ge 17, 3) := by decide +kernel
theorem dX12_ahead_49 : decode cX12_ahead 49 = .ok (.aload_n 0, 1) := by decide +kernel
theorem dX12_ahead_50 : decode cX12_ahead 50 = .ok (.aload_n 0, 1) := by decide +kernel
theorem dX12_ahead_51 : decode cX12_ahead 51 = .ok (.getfield 70, 3) := by decide +kernel
theorem dX12_ahead_54 : decode cX12_ahead 54 = .ok (.invokevirtual 330, 3) := by decide +kernel
theorem dX12_ahead_57 : decode cX12_ahead 57 = .ok (.iinc 2 1, 3) := by decide +kernel
theorem dX12_ahead_60 : decode cX12_ahead 60 = .ok (.goto (-16), 3) := by decide +kernel
theorem dX12_ahead_63 : decode cX12_ahead 63 = .ok (.aload_n 0, 1) := by decide +kernel
theorem dX12_ahead_64 : decode cX12_ahead 64 = .ok (.aload_n 0, 1) := by decide +kernel
theorem dX12_ahead_65 : decode cX12_ahead 65 = .ok (.getfield 70, 3) := by decide +kernel
theorem dX12_ahead_68 : decode cX12_ahead 68 = .ok (.invokevirtual 354, 3) := by decide +kernel
theorem dX12_ahead_71 : decode cX12_ahead 71 = .ok (.ireturn, 1) := by decide +kernel
theorem dX12_isNext_0 : decode cX12_isNext 0 = .ok (.iload_n 1, 1) := by decide +kernel
theorem dX12_isNext_1 : decode cX12_isNext 1 = .ok (.iconst (-1), 1) := by decide +kernel
theorem dX12_isNext_2 : decode cX12_isNext 2 = .ok (.if_icmp .eq 30, 3) := by decide +kernel
theorem dX12_isNext_5 : decode cX12_isNext 5 = .ok (.aload_n 0, 1) := by decide +kernel
theorem dX12_isNext_6 : decode cX12_isNext 6 = .ok (.aload_n 0, 1) := by decide +kernel
theorem dX12_isNext_7 : decode cX12_isNext 7 = .ok (.iload_n 1, 1) := by decide +kernel
theorem dX12_isNext_8 : decode cX12_isNext 8 = .ok (.iconst 2, 1) := by decide +kernel
theorem dX12_isNext_9 : decode cX12_isNext 9 = .ok (.idiv, 1) := by decide +kernel
theorem dX12_isNext_10 : decode cX12_isNext 10 = .ok (.iload_n 1, 1) := by decide +kernel
theorem dX12_isNext_11 : decode cX12_isNext 11 = .ok (.iconst 2, 1) := by decide +kernel
theorem dX12_isNext_12 : decode cX12_isNext 12 = .ok (.irem, 1) := by decide +kernel
theorem dX12_isNext_13 : decode cX12_isNext 13 = .ok (.invokevirtual 272, 3) := by decide +kernel
theorem dX12_isNext_16 : decode cX12_isNext 16 = .ok (.aload_n 0, 1) := by decide +kernel
theorem dX12_isNext_17 : decode cX12_isNext 17 = .ok (.iload_n 2, 1) := by decide +kernel
theorem dX12_isNext_18 : decode cX12_isNext 18 = .ok (.iconst 2, 1) := by decide +kernel
theorem dX12_isNext_19 : decode cX12_isNext 19 = .ok (.idiv, 1) := by decide +kernel
theorem dX12_isNext_20 : decode cX12_isNext 20 = .ok (.iload_n 2, 1) := by decide +kernel
theorem dX12_isNext_21 : decode cX12_isNext 21 = .ok (.iconst 2, 1) := by decide +kernel
theorem dX12_isNext_22 : decode cX12_isNext 22 = .ok (.irem, 1) := by decide +kernel
theorem dX12_isNext_23 : decode cX12_isNext 23 = .ok (.invokevirtual 275, 3) := by decide +kernel
theorem dX12_isNext_26 : decode cX12_isNext 26 = .ok (.invokevirtual 278, 3) := by decide +kernel
theorem dX12_isNext_29 : decode cX12_isNext 29 = .ok (.ifCond .eq 7, 3) := by decide +kernel
theorem dX12_isNext_32 : decode cX12_isNext 32 = .ok (.iconst 1, 1) := by decide +kernel
theorem dX12_isNext_33 : decode cX12_isNext 33 = .ok (.goto 4, 3) := by decide +kernel
theorem dX12_isNext_36 : decode cX12_isNext 36 = .ok (.iconst 0, 1) := by decide +kernel
theorem dX12_isNext_37 : decode cX12_isNext 37 = .ok (.ireturn, 1) := by decide +kernel
theorem dX12_laysLongest_0 : decode cX12_laysLongest 0 = .ok (.iconst 1, 1) := by decide +kernel
theorem dX12_laysLongest_1 : decode cX12_laysLongest 1 = .ok (.aload_n 0, 1) := by decide +kernel
theorem dX12_laysLongest_2 : decode cX12_laysLongest 2 = .ok (.getfield 23, 3) := by decide +kernel
theorem dX12_laysLongest_5 : decode cX12_laysLongest 5 = .ok (.iconst 0, 1) := by decide +kernel
theorem dX12_laysLongest_6 : decode cX12_laysLongest 6 = .ok (.iaload, 1) := by decide +kernel
theorem dX12_laysLongest_7 : decode cX12_laysLongest 7 = .ok (.ishl, 1) := by decide +kernel
theorem dX12_laysLongest_8 : decode cX12_laysLongest 8 = .ok (.iconst 1, 1) := by decide +kernel
theorem dX12_laysLongest_9 : decode cX12_laysLongest 9 = .ok (.isub, 1) := by decide +kernel
theorem dX12_laysLongest_10 : decode cX12_laysLongest 10 = .ok (.istore_n 1, 1) := by decide +kernel
theorem dX12_laysLongest_11 : decode cX12_laysLongest 11 = .ok (.iload_n 1, 1) := by decide +kernel
theorem dX12_laysLongest_12 : decode cX12_laysLongest 12 = .ok (.ifCond .lt 134, 3) := by decide +kernel
theorem dX12_laysLongest_15 : decode cX12_laysLongest 15 = .ok (.iconst 0, 1) := by decide +kernel
theorem dX12_laysLongest_16 : decode cX12_laysLongest 16 = .ok (.istore_n 2, 1) := by decide +kernel
theorem dX12_laysLongest_17 : decode cX12_laysLongest 17 = .ok (.iload_n 2, 1) := by decide +kernel
theorem dX12_laysLongest_18 : decode cX12_laysLongest 18 = .ok (.iconst 2, 1) := by decide +kernel
theorem dX12_laysLongest_19 : decode cX12_laysLongest 19 = .ok (.aload_n 0, 1) := by decide +kernel
theorem dX12_laysLongest_20 : decode cX12_laysLongest 20 = .ok (.getfield 23, 3) := by decide +kernel
theorem dX12_laysLongest_23 : decode cX12_laysLongest 23 = .ok (.iconst 0, 1) := by decide +kernel
theorem dX12_laysLongest_24 : decode cX12_laysLongest 24 = .ok (.iaload, 1) := by decide +kernel
theorem dX12_laysLongest_25 : decode cX12_laysLongest 25 = .ok (.imul, 1) := by decide +kernel
theorem dX12_laysLongest_26 : decode cX12_laysLongest 26 = .ok (.if_icmp .ge 114, 3) := by decide +kernel
theorem dX12_laysLongest_29 : decode cX12_laysLongest 29 = .ok (.aload_n 0, 1) := by decide +kernel
theorem dX12_laysLongest_30 : decode cX12_laysLongest 30 = .ok (.getfield 82, 3) := by decide +kernel
theorem dX12_laysLongest_33 : decode cX12_laysLongest 33 = .ok (.iload_n 1, 1) := by decide +kernel
theorem dX12_laysLongest_34 : decode cX12_laysLongest 34 = .ok (.aaload, 1) := by decide +kernel
theorem dX12_laysLongest_35 : decode cX12_laysLongest 35 = .ok (.iload_n 2, 1) := by decide +kernel
theorem dX12_laysLongest_36 : decode cX12_laysLongest 36 = .ok (.iconst 0, 1) := by decide +kernel
theorem dX12_laysLongest_37 : decode cX12_laysLongest 37 = .ok (.iastore, 1) := by decide +kernel
theorem dX12_laysLongest_38 : decode cX12_laysLongest 38 = .ok (.iconst 0, 1) := by decide +kernel
theorem dX12_laysLongest_39 : decode cX12_laysLongest 39 = .ok (.istore_n 3, 1) := by decide +kernel
theorem dX12_laysLongest_40 : decode cX12_laysLongest 40 = .ok (.iload_n 3, 1) := by decide +kernel
theorem dX12_laysLongest_41 : decode cX12_laysLongest 41 = .ok (.iconst 2, 1) := by decide +kernel
theorem dX12_laysLongest_42 : decode cX12_laysLongest 42 = .ok (.aload_n 0, 1) := by decide +kernel
theorem dX12_laysLongest_43 : decode cX12_laysLongest 43 = .ok (.getfield 23, 3) := by decide +kernel
theorem dX12_laysLongest_46 : decode cX12_laysLongest 46 = .ok (.iconst 0, 1) := by decide +kernel
theorem dX12_laysLongest_47 : decode cX12_laysLongest 47 = .ok (.iaload, 1) := by decide +kernel
theorem dX12_laysLongest_48 : decode cX12_laysLongest 48 = .ok (.imul, 1) := by decide +kernel
theorem dX12_laysLongest_49 : decode cX12_laysLongest 49 = .ok (.if_icmp .ge 85, 3) := by decide +kernel
theorem dX12_laysLongest_52 : decode cX12_laysLongest 52 = .ok (.iload_n 1, 1) := by decide +kernel
theorem dX12_laysLongest_53 : decode cX12_laysLongest 53 = .ok (.iload_n 2, 1) := by decide +kernel
theorem dX12_laysLongest_54 : decode cX12_laysLongest 54 = .ok (.iconst 2, 1) := by decide +kernel
theorem dX12_laysLongest_55 : decode cX12_laysLongest 55 = .ok (.idiv, 1) := by decide +kernel
theorem dX12_laysLongest_56 : decode cX12_laysLongest 56 = .ok (.invokestatic 366, 3) := by decide +kernel
theorem dX12_laysLongest_59 : decode cX12_laysLongest 59 = .ok (.ifCond .eq 75, 3) := by decide +kernel
theorem dX12_laysLongest_62 : decode cX12_laysLongest 62 = .ok (.iload_n 1, 1) := by decide +kernel
theorem dX12_laysLongest_63 : decode cX12_laysLongest 63 = .ok (.iload_n 3, 1) := by decide +kernel
theorem dX12_laysLongest_64 : decode cX12_laysLongest 64 = .ok (.iconst 2, 1) := by decide +kernel
theorem dX12_laysLongest_65 : decode cX12_laysLongest 65 = .ok (.idiv, 1) := by decide +kernel
theorem dX12_laysLongest_66 : decode cX12_laysLongest 66 = .ok (.invokestatic 366, 3) := by decide +kernel
theorem dX12_laysLongest_69 : decode cX12_laysLongest 69 = .ok (.ifCond .ne 59, 3) := by decide +kernel
theorem dX12_laysLongest_72 : decode cX12_laysLongest 72 = .ok (.aload_n 0, 1) := by decide +kernel
theorem dX12_laysLongest_73 : decode cX12_laysLongest 73 = .ok (.iload_n 2, 1) := by decide +kernel
theorem dX12_laysLongest_74 : decode cX12_laysLongest 74 = .ok (.iload_n 3, 1) := by decide +kernel
theorem dX12_laysLongest_75 : decode cX12_laysLongest 75 = .ok (.invokevirtual 369, 3) := by decide +kernel
theorem dX12_laysLongest_78 : decode cX12_laysLongest 78 = .ok (.ifCond .ne 6, 3) := by decide +kernel
theorem dX12_laysLongest_81 : decode cX12_laysLongest 81 = .ok (.goto 47, 3) := by decide +kernel
theorem dX12_laysLongest_84 : decode cX12_laysLongest 84 = .ok (.aload_n 0, 1) := by decide +kernel
theorem dX12_laysLongest_85 : decode cX12_laysLongest 85 = .ok (.getfield 82, 3) := by decide +kernel
theorem dX12_laysLongest_88 : decode cX12_laysLongest 88 = .ok (.iload_n 1, 1) := by decide +kernel
theorem dX12_laysLongest_89 : decode cX12_laysLongest 89 = .ok (.aaload, 1) := by decide +kernel
theorem dX12_laysLongest_90 : decode cX12_laysLongest 90 = .ok (.iload_n 2, 1) := by decide +kernel
theorem dX12_laysLongest_91 : decode cX12_laysLongest 91 = .ok (.aload_n 0, 1) := by decide +kernel
theorem dX12_laysLongest_92 : decode cX12_laysLongest 92 = .ok (.getfield 82, 3) := by decide +kernel
theorem dX12_laysLongest_95 : decode cX12_laysLongest 95 = .ok (.iload_n 1, 1) := by decide +kernel
theorem dX12_laysLongest_96 : decode cX12_laysLongest 96 = .ok (.aaload, 1) := by decide +kernel
theorem dX12_laysLongest_97 : decode cX12_laysLongest 97 = .ok (.iload_n 2, 1) := by decide +kernel
theorem dX12_laysLongest_98 : decode cX12_laysLongest 98 = .ok (.iaload, 1) := by decide +kernel
theorem dX12_laysLongest_99 : decode cX12_laysLongest 99 = .ok (.aload_n 0, 1) := by decide +kernel
theorem dX12_laysLongest_100 : decode cX12_laysLongest 100 = .ok (.getfield 31, 3) := by decide +kernel
theorem dX12_laysLongest_103 : decode cX12_laysLongest 103 = .ok (.iload_n 3, 1) := by decide +kernel
theorem dX12_laysLongest_104 : decode cX12_laysLongest 104 = .ok (.iconst 2, 1) := by decide +kernel
theorem dX12_laysLongest_105 : decode cX12_laysLongest 105 = .ok (.idiv, 1) := by decide +kernel
theorem dX12_laysLongest_106 : decode cX12_laysLongest 106 = .ok (.aaload, 1) := by decide +kernel
theorem dX12_laysLongest_107 : decode cX12_laysLongest 107 = .ok (.iconst 0, 1) := by decide +kernel
theorem dX12_laysLongest_108 : decode cX12_laysLongest 108 = .ok (.iaload, 1) := by decide +kernel
theorem dX12_laysLongest_109 : decode cX12_laysLongest 109 = .ok (.aload_n 0, 1) := by decide +kernel
theorem dX12_laysLongest_110 : decode cX12_laysLongest 110 = .ok (.getfield 82, 3) := by decide +kernel
theorem dX12_laysLongest_113 : decode cX12_laysLongest 113 = .ok (.iload_n 1, 1) := by decide +kernel
theorem dX12_laysLongest_114 : decode cX12_laysLongest 114 = .ok (.iconst 1, 1) := by decide +kernel
theorem dX12_laysLongest_115 : decode cX12_laysLongest 115 = .ok (.iload_n 3, 1) := by decide +kernel
theorem dX12_laysLongest_116 : decode cX12_laysLongest 116 = .ok (.iconst 2, 1) := by decide +kernel
theorem dX12_laysLongest_117 : decode cX12_laysLongest 117 = .ok (.idiv, 1) := by decide +kernel
theorem dX12_laysLongest_118 : decode cX12_laysLongest 118 = .ok (.ishl, 1) := by decide +kernel
theorem dX12_laysLongest_119 : decode cX12_laysLongest 119 = .ok (.ior, 1) := by decide +kernel
theorem dX12_laysLongest_120 : decode cX12_laysLongest 120 = .ok (.aaload, 1) := by decide +kernel
theorem dX12_laysLongest_121 : decode cX12_laysLongest 121 = .ok (.iload_n 3, 1) := by decide +kernel
theorem dX12_laysLongest_122 : decode cX12_laysLongest 122 = .ok (.iaload, 1) := by decide +kernel
theorem dX12_laysLongest_123 : decode cX12_laysLongest 123 = .ok (.iadd, 1) := by decide +kernel
theorem dX12_laysLongest_124 : decode cX12_laysLongest 124 = .ok (.invokestatic 248, 3) := by decide +kernel
theorem dX12_laysLongest_127 : decode cX12_laysLongest 127 = .ok (.iastore, 1) := by decide +kernel
theorem dX12_laysLongest_128 : decode cX12_laysLongest 128 = .ok (.iinc 3 1, 3) := by decide +kernel
theorem dX12_laysLongest_131 : decode cX12_laysLongest 131 = .ok (.goto (-91), 3) := by decide +kernel
theorem dX12_laysLongest_134 : decode cX12_laysLongest 134 = .ok (.iinc 2 1, 3) := by decide +kernel
theorem dX12_laysLongest_137 : decode cX12_laysLongest 137 = .ok (.goto (-120), 3) := by decide +kernel
theorem dX12_laysLongest_140 : decode cX12_laysLongest 140 = .ok (.iinc 1 (-1), 3) := by decide +kernel
theorem dX12_laysLongest_143 : decode cX12_laysLongest 143 = .ok (.goto (-132), 3) := by decide +kernel
theorem dX12_laysLongest_146 : decode cX12_laysLongest 146 = .ok (.return_, 1) := by decide +kernel
theorem dX12_chains_0 : decode cX12_chains 0 = .ok (.iconst 0, 1) := by decide +kernel
theorem dX12_chains_1 : decode cX12_chains 1 = .ok (.istore_n 1, 1) := by decide +kernel
theorem dX12_chains_2 : decode cX12_chains 2 = .ok (.iconst (-1), 1) := by decide +kernel
theorem dX12_chains_3 : decode cX12_chains 3 = .ok (.istore_n 2, 1) := by decide +kernel
theorem dX12_chains_4 : decode cX12_chains 4 = .ok (.iconst 0, 1) := by decide +kernel
theorem dX12_chains_5 : decode cX12_chains 5 = .ok (.istore_n 3, 1) := by decide +kernel
theorem dX12_chains_6 : decode cX12_chains 6 = .ok (.aload_n 0, 1) := by decide +kernel
theorem dX12_chains_7 : decode cX12_chains 7 = .ok (.invokevirtual 372, 3) := by decide +kernel
theorem dX12_chains_10 : decode cX12_chains 10 = .ok (.aload_n 0, 1) := by decide +kernel
theorem dX12_chains_11 : decode cX12_chains 11 = .ok (.iconst 0, 1) := by decide +kernel
theorem dX12_chains_12 : decode cX12_chains 12 = .ok (.putfield 375, 3) := by decide +kernel
theorem dX12_chains_15 : decode cX12_chains 15 = .ok (.iconst 0, 1) := by decide +kernel
theorem dX12_chains_16 : decode cX12_chains 16 = .ok (.istore 4, 2) := by decide +kernel
theorem dX12_chains_18 : decode cX12_chains 18 = .ok (.iload 4, 2) := by decide +kernel
theorem dX12_chains_20 : decode cX12_chains 20 = .ok (.iconst 2, 1) := by decide +kernel
theorem dX12_chains_21 : decode cX12_chains 21 = .ok (.aload_n 0, 1) := by decide +kernel
theorem dX12_chains_22 : decode cX12_chains 22 = .ok (.getfield 23, 3) := by decide +kernel
theorem dX12_chains_25 : decode cX12_chains 25 = .ok (.iconst 0, 1) := by decide +kernel
theorem dX12_chains_26 : decode cX12_chains 26 = .ok (.iaload, 1) := by decide +kernel
theorem dX12_chains_27 : decode cX12_chains 27 = .ok (.imul, 1) := by decide +kernel
theorem dX12_chains_28 : decode cX12_chains 28 = .ok (.if_icmp .ge 40, 3) := by decide +kernel
theorem dX12_chains_31 : decode cX12_chains 31 = .ok (.iload_n 3, 1) := by decide +kernel
theorem dX12_chains_32 : decode cX12_chains 32 = .ok (.aload_n 0, 1) := by decide +kernel
theorem dX12_chains_33 : decode cX12_chains 33 = .ok (.getfield 31, 3) := by decide +kernel
theorem dX12_chains_36 : decode cX12_chains 36 = .ok (.iload 4, 2) := by decide +kernel
theorem dX12_chains_38 : decode cX12_chains 38 = .ok (.iconst 2, 1) := by decide +kernel
theorem dX12_chains_39 : decode cX12_chains 39 = .ok (.idiv, 1) := by decide +kernel
theorem dX12_chains_40 : decode cX12_chains 40 = .ok (.aaload, 1) := by decide +kernel
theorem dX12_chains_41 : decode cX12_chains 41 = .ok (.iconst 0, 1) := by decide +kernel
theorem dX12_chains_42 : decode cX12_chains 42 = .ok (.iaload, 1) := by decide +kernel
theorem dX12_chains_43 : decode cX12_chains 43 = .ok (.aload_n 0, 1) := by decide +kernel
theorem dX12_chains_44 : decode cX12_chains 44 = .ok (.getfield 82, 3) := by decide +kernel
theorem dX12_chains_47 : decode cX12_chains 47 = .ok (.iconst 1, 1) := by decide +kernel
theorem dX12_chains_48 : decode cX12_chains 48 = .ok (.iload 4, 2) := by decide +kernel
theorem dX12_chains_50 : decode cX12_chains 50 = .ok (.iconst 2, 1) := by decide +kernel
theorem dX12_chains_51 : decode cX12_chains 51 = .ok (.idiv, 1) := by decide +kernel
theorem dX12_chains_52 : decode cX12_chains 52 = .ok (.ishl, 1) := by decide +kernel
theorem dX12_chains_53 : decode cX12_chains 53 = .ok (.aaload, 1) := by decide +kernel
theorem dX12_chains_54 : decode cX12_chains 54 = .ok (.iload 4, 2) := by decide +kernel
theorem dX12_chains_56 : decode cX12_chains 56 = .ok (.iaload, 1) := by decide +kernel
theorem dX12_chains_57 : decode cX12_chains 57 = .ok (.iadd, 1) := by decide +kernel
theorem dX12_chains_58 : decode cX12_chains 58 = .ok (.invokestatic 248, 3) := by decide +kernel
theorem dX12_chains_61 : decode cX12_chains 61 = .ok (.istore_n 3, 1) := by decide +kernel
theorem dX12_chains_62 : decode cX12_chains 62 = .ok (.iinc 4 1, 3) := by decide +kernel
theorem dX12_chains_65 : decode cX12_chains 65 = .ok (.goto (-47), 3) := by decide +kernel
theorem dX12_chains_68 : decode cX12_chains 68 = .ok (.aload_n 0, 1) := by decide +kernel
theorem dX12_chains_69 : decode cX12_chains 69 = .ok (.iload_n 3, 1) := by decide +kernel
theorem dX12_chains_70 : decode cX12_chains 70 = .ok (.putfield 378, 3) := by decide +kernel
theorem dX12_chains_73 : decode cX12_chains 73 = .ok (.iload_n 3, 1) := by decide +kernel
theorem dX12_chains_74 : decode cX12_chains 74 = .ok (.ifCond .le 115, 3) := by decide +kernel
theorem dX12_chains_77 : decode cX12_chains 77 = .ok (.iconst 0, 1) := by decide +kernel
theorem dX12_chains_78 : decode cX12_chains 78 = .ok (.istore 4, 2) := by decide +kernel
theorem dX12_chains_80 : decode cX12_chains 80 = .ok (.iload_n 1, 1) := by decide +kernel
theorem dX12_chains_81 : decode cX12_chains 81 = .ok (.iload 4, 2) := by decide +kernel
theorem dX12_chains_83 : decode cX12_chains 83 = .ok (.iconst 2, 1) := by decide +kernel
theorem dX12_chains_84 : decode cX12_chains 84 = .ok (.idiv, 1) := by decide +kernel
theorem dX12_chains_85 : decode cX12_chains 85 = .ok (.invokestatic 366, 3) := by decide +kernel
theorem dX12_chains_88 : decode cX12_chains 88 = .ok (.ifCond .ne 45, 3) := by decide +kernel
theorem dX12_chains_91 : decode cX12_chains 91 = .ok (.aload_n 0, 1) := by decide +kernel
theorem dX12_chains_92 : decode cX12_chains 92 = .ok (.iload_n 2, 1) := by decide +kernel
theorem dX12_chains_93 : decode cX12_chains 93 = .ok (.iload 4, 2) := by decide +kernel
theorem dX12_chains_95 : decode cX12_chains 95 = .ok (.invokevirtual 369, 3) := by decide +kernel
theorem dX12_chains_98 : decode cX12_chains 98 = .ok (.ifCond .eq 35, 3) := by decide +kernel
theorem dX12_chains_101 : decode cX12_chains 101 = .ok (.aload_n 0, 1) := by decide +kernel
theorem dX12_chains_102 : decode cX12_chains 102 = .ok (.getfield 31, 3) := by decide +kernel
theorem dX12_chains_105 : decode cX12_chains 105 = .ok (.iload 4, 2) := by decide +kernel
theorem dX12_chains_107 : decode cX12_chains 107 = .ok (.iconst 2, 1) := by decide +kernel
theorem dX12_chains_108 : decode cX12_chains 108 = .ok (.idiv, 1) := by decide +kernel
theorem dX12_chains_109 : decode cX12_chains 109 = .ok (.aaload, 1) := by decide +kernel
theorem dX12_chains_110 : decode cX12_chains 110 = .ok (.iconst 0, 1) := by decide +kernel
theorem dX12_chains_111 : decode cX12_chains 111 = .ok (.iaload, 1) := by decide +kernel
theorem dX12_chains_112 : decode cX12_chains 112 = .ok (.aload_n 0, 1) := by decide +kernel
theorem dX12_chains_113 : decode cX12_chains 113 = .ok (.getfield 82, 3) := by decide +kernel
theorem dX12_chains_116 : decode cX12_chains 116 = .ok (.iload_n 1, 1) := by decide +kernel
theorem dX12_chains_117 : decode cX12_chains 117 = .ok (.iconst 1, 1) := by decide +kernel
theorem dX12_chains_118 : decode cX12_chains 118 = .ok (.iload 4, 2) := by decide +kernel
theorem dX12_chains_120 : decode cX12_chains 120 = .ok (.iconst 2, 1) := by decide +kernel
theorem dX12_chains_121 : decode cX12_chains 121 = .ok (.idiv, 1) := by decide +kernel
theorem dX12_chains_122 : decode cX12_chains 122 = .ok (.ishl, 1) := by decide +kernel
theorem dX12_chains_123 : decode cX12_chains 123 = .ok (.ior, 1) := by decide +kernel
theorem dX12_chains_124 : decode cX12_chains 124 = .ok (.aaload, 1) := by decide +kernel
theorem dX12_chains_125 : decode cX12_chains 125 = .ok (.iload 4, 2) := by decide +kernel
theorem dX12_chains_127 : decode cX12_chains 127 = .ok (.iaload, 1) := by decide +kernel
theorem dX12_chains_128 : decode cX12_chains 128 = .ok (.iadd, 1) := by decide +kernel
theorem dX12_chains_129 : decode cX12_chains 129 = .ok (.iload_n 3, 1) := by decide +kernel
theorem dX12_chains_130 : decode cX12_chains 130 = .ok (.if_icmp .eq 9, 3) := by decide +kernel
theorem dX12_chains_133 : decode cX12_chains 133 = .ok (.iinc 4 1, 3) := by decide +kernel
theorem dX12_chains_136 : decode cX12_chains 136 = .ok (.goto (-56), 3) := by decide +kernel
theorem dX12_chains_139 : decode cX12_chains 139 = .ok (.aload_n 0, 1) := by decide +kernel
theorem dX12_chains_140 : decode cX12_chains 140 = .ok (.getfield 85, 3) := by decide +kernel
theorem dX12_chains_143 : decode cX12_chains 143 = .ok (.aload_n 0, 1) := by decide +kernel
theorem dX12_chains_144 : decode cX12_chains 144 = .ok (.getfield 375, 3) := by decide +kernel
theorem dX12_chains_147 : decode cX12_chains 147 = .ok (.iload 4, 2) := by decide +kernel
theorem dX12_chains_149 : decode cX12_chains 149 = .ok (.iastore, 1) := by decide +kernel
theorem dX12_chains_150 : decode cX12_chains 150 = .ok (.aload_n 0, 1) := by decide +kernel
theorem dX12_chains_151 : decode cX12_chains 151 = .ok (.dup, 1) := by decide +kernel
theorem dX12_chains_152 : decode cX12_chains 152 = .ok (.getfield 375, 3) := by decide +kernel
theorem dX12_chains_155 : decode cX12_chains 155 = .ok (.iconst 1, 1) := by decide +kernel
theorem dX12_chains_156 : decode cX12_chains 156 = .ok (.iadd, 1) := by decide +kernel
theorem dX12_chains_157 : decode cX12_chains 157 = .ok (.putfield 375, 3) := by decide +kernel
theorem dX12_chains_160 : decode cX12_chains 160 = .ok (.iload_n 3, 1) := by decide +kernel
theorem dX12_chains_161 : decode cX12_chains 161 = .ok (.aload_n 0, 1) := by decide +kernel
theorem dX12_chains_162 : decode cX12_chains 162 = .ok (.getfield 31, 3) := by decide +kernel
theorem dX12_chains_165 : decode cX12_chains 165 = .ok (.iload 4, 2) := by decide +kernel
theorem dX12_chains_167 : decode cX12_chains 167 = .ok (.iconst 2, 1) := by decide +kernel
theorem dX12_chains_168 : decode cX12_chains 168 = .ok (.idiv, 1) := by decide +kernel
theorem dX12_chains_169 : decode cX12_chains 169 = .ok (.aaload, 1) := by decide +kernel
theorem dX12_chains_170 : decode cX12_chains 170 = .ok (.iconst 0, 1) := by decide +kernel
theorem dX12_chains_171 : decode cX12_chains 171 = .ok (.iaload, 1) := by decide +kernel
theorem dX12_chains_172 : decode cX12_chains 172 = .ok (.isub, 1) := by decide +kernel
theorem dX12_chains_173 : decode cX12_chains 173 = .ok (.istore_n 3, 1) := by decide +kernel
theorem dX12_chains_174 : decode cX12_chains 174 = .ok (.iload_n 1, 1) := by decide +kernel
theorem dX12_chains_175 : decode cX12_chains 175 = .ok (.iconst 1, 1) := by decide +kernel
theorem dX12_chains_176 : decode cX12_chains 176 = .ok (.iload 4, 2) := by decide +kernel
theorem dX12_chains_178 : decode cX12_chains 178 = .ok (.iconst 2, 1) := by decide +kernel
theorem dX12_chains_179 : decode cX12_chains 179 = .ok (.idiv, 1) := by decide +kernel
theorem dX12_chains_180 : decode cX12_chains 180 = .ok (.ishl, 1) := by decide +kernel
theorem dX12_chains_181 : decode cX12_chains 181 = .ok (.ior, 1) := by decide +kernel
theorem dX12_chains_182 : decode cX12_chains 182 = .ok (.istore_n 1, 1) := by decide +kernel
theorem dX12_chains_183 : decode cX12_chains 183 = .ok (.iload 4, 2) := by decide +kernel
theorem dX12_chains_185 : decode cX12_chains 185 = .ok (.istore_n 2, 1) := by decide +kernel
theorem dX12_chains_186 : decode cX12_chains 186 = .ok (.goto (-113), 3) := by decide +kernel
theorem dX12_chains_189 : decode cX12_chains 189 = .ok (.return_, 1) := by decide +kernel
theorem dX12_chain_0 : decode cX12_chain 0 = .ok (.aload_n 0, 1) := by decide +kernel
theorem dX12_chain_1 : decode cX12_chain 1 = .ok (.iconst 0, 1) := by decide +kernel
theorem dX12_chain_2 : decode cX12_chain 2 = .ok (.putfield 103, 3) := by decide +kernel
theorem dX12_chain_5 : decode cX12_chain 5 = .ok (.aload_n 0, 1) := by decide +kernel
theorem dX12_chain_6 : decode cX12_chain 6 = .ok (.iload_n 1, 1) := by decide +kernel
theorem dX12_chain_7 : decode cX12_chain 7 = .ok (.iconst 0, 1) := by decide +kernel
theorem dX12_chain_8 : decode cX12_chain 8 = .ok (.iconst 1, 1) := by decide +kernel
theorem dX12_chain_9 : decode cX12_chain 9 = .ok (.invokestatic 137, 3) := by decide +kernel
theorem dX12_chain_12 : decode cX12_chain 12 = .ok (.ifCond .ne 7, 3) := by decide +kernel
theorem dX12_chain_15 : decode cX12_chain 15 = .ok (.iconst 1, 1) := by decide +kernel
theorem dX12_chain_16 : decode cX12_chain 16 = .ok (.goto 4, 3) := by decide +kernel
theorem dX12_chain_19 : decode cX12_chain 19 = .ok (.iconst 0, 1) := by decide +kernel
theorem dX12_chain_20 : decode cX12_chain 20 = .ok (.iconst 1, 1) := by decide +kernel
theorem dX12_chain_21 : decode cX12_chain 21 = .ok (.iconst 1, 1) := by decide +kernel
theorem dX12_chain_22 : decode cX12_chain 22 = .ok (.invokevirtual 182, 3) := by decide +kernel
theorem dX12_chain_25 : decode cX12_chain 25 = .ok (.ifCond .eq 5, 3) := by decide +kernel
theorem dX12_chain_28 : decode cX12_chain 28 = .ok (.iconst 0, 1) := by decide +kernel
theorem dX12_chain_29 : decode cX12_chain 29 = .ok (.ireturn, 1) := by decide +kernel
theorem dX12_chain_30 : decode cX12_chain 30 = .ok (.aload_n 0, 1) := by decide +kernel
theorem dX12_chain_31 : decode cX12_chain 31 = .ok (.invokevirtual 381, 3) := by decide +kernel
theorem dX12_chain_34 : decode cX12_chain 34 = .ok (.iload_n 1, 1) := by decide +kernel
theorem dX12_chain_35 : decode cX12_chain 35 = .ok (.ifCond .ne 10, 3) := by decide +kernel
theorem dX12_chain_38 : decode cX12_chain 38 = .ok (.aload_n 0, 1) := by decide +kernel
theorem dX12_chain_39 : decode cX12_chain 39 = .ok (.getfield 378, 3) := by decide +kernel
theorem dX12_chain_42 : decode cX12_chain 42 = .ok (.goto 7, 3) := by decide +kernel
theorem dX12_chain_45 : decode cX12_chain 45 = .ok (.aload_n 0, 1) := by decide +kernel
theorem dX12_chain_46 : decode cX12_chain 46 = .ok (.getfield 375, 3) := by decide +kernel
theorem dX12_chain_49 : decode cX12_chain 49 = .ok (.ireturn, 1) := by decide +kernel
theorem dX12_chained_0 : decode cX12_chained 0 = .ok (.aload_n 0, 1) := by decide +kernel
theorem dX12_chained_1 : decode cX12_chained 1 = .ok (.iconst 0, 1) := by decide +kernel
theorem dX12_chained_2 : decode cX12_chained 2 = .ok (.putfield 103, 3) := by decide +kernel
theorem dX12_chained_5 : decode cX12_chained 5 = .ok (.aload_n 0, 1) := by decide +kernel
theorem dX12_chained_6 : decode cX12_chained 6 = .ok (.iload_n 1, 1) := by decide +kernel
theorem dX12_chained_7 : decode cX12_chained 7 = .ok (.ifCond .ge 7, 3) := by decide +kernel
theorem dX12_chained_10 : decode cX12_chained 10 = .ok (.iconst 1, 1) := by decide +kernel
theorem dX12_chained_11 : decode cX12_chained 11 = .ok (.goto 4, 3) := by decide +kernel
theorem dX12_chained_14 : decode cX12_chained 14 = .ok (.iconst 0, 1) := by decide +kernel
theorem dX12_chained_15 : decode cX12_chained 15 = .ok (.iconst 1, 1) := by decide +kernel
theorem dX12_chained_16 : decode cX12_chained 16 = .ok (.iconst 1, 1) := by decide +kernel
theorem dX12_chained_17 : decode cX12_chained 17 = .ok (.invokevirtual 182, 3) := by decide +kernel
theorem dX12_chained_20 : decode cX12_chained 20 = .ok (.ifCond .eq 5, 3) := by decide +kernel
theorem dX12_chained_23 : decode cX12_chained 23 = .ok (.iconst 0, 1) := by decide +kernel
theorem dX12_chained_24 : decode cX12_chained 24 = .ok (.ireturn, 1) := by decide +kernel
theorem dX12_chained_25 : decode cX12_chained 25 = .ok (.aload_n 0, 1) := by decide +kernel
theorem dX12_chained_26 : decode cX12_chained 26 = .ok (.invokevirtual 381, 3) := by decide +kernel
theorem dX12_chained_29 : decode cX12_chained 29 = .ok (.iload_n 1, 1) := by decide +kernel
theorem dX12_chained_30 : decode cX12_chained 30 = .ok (.aload_n 0, 1) := by decide +kernel
theorem dX12_chained_31 : decode cX12_chained 31 = .ok (.getfield 375, 3) := by decide +kernel
theorem dX12_chained_34 : decode cX12_chained 34 = .ok (.if_icmp .ge 12, 3) := by decide +kernel
theorem dX12_chained_37 : decode cX12_chained 37 = .ok (.aload_n 0, 1) := by decide +kernel
theorem dX12_chained_38 : decode cX12_chained 38 = .ok (.getfield 85, 3) := by decide +kernel
theorem dX12_chained_41 : decode cX12_chained 41 = .ok (.iload_n 1, 1) := by decide +kernel
theorem dX12_chained_42 : decode cX12_chained 42 = .ok (.iaload, 1) := by decide +kernel
theorem dX12_chained_43 : decode cX12_chained 43 = .ok (.goto 4, 3) := by decide +kernel
theorem dX12_chained_46 : decode cX12_chained 46 = .ok (.iconst (-1), 1) := by decide +kernel
theorem dX12_chained_47 : decode cX12_chained 47 = .ok (.ireturn, 1) := by decide +kernel
theorem dX12_joiner_0 : decode cX12_joiner 0 = .ok (.aload_n 0, 1) := by decide +kernel
theorem dX12_joiner_1 : decode cX12_joiner 1 = .ok (.iconst 0, 1) := by decide +kernel
theorem dX12_joiner_2 : decode cX12_joiner 2 = .ok (.putfield 103, 3) := by decide +kernel
theorem dX12_joiner_5 : decode cX12_joiner 5 = .ok (.aload_n 0, 1) := by decide +kernel
theorem dX12_joiner_6 : decode cX12_joiner 6 = .ok (.iload_n 1, 1) := by decide +kernel
theorem dX12_joiner_7 : decode cX12_joiner 7 = .ok (.iconst 0, 1) := by decide +kernel
theorem dX12_joiner_8 : decode cX12_joiner 8 = .ok (.iconst 1, 1) := by decide +kernel
theorem dX12_joiner_9 : decode cX12_joiner 9 = .ok (.invokestatic 137, 3) := by decide +kernel
theorem dX12_joiner_12 : decode cX12_joiner 12 = .ok (.ifCond .ne 7, 3) := by decide +kernel
theorem dX12_joiner_15 : decode cX12_joiner 15 = .ok (.iconst 1, 1) := by decide +kernel
theorem dX12_joiner_16 : decode cX12_joiner 16 = .ok (.goto 4, 3) := by decide +kernel
theorem dX12_joiner_19 : decode cX12_joiner 19 = .ok (.iconst 0, 1) := by decide +kernel
theorem dX12_joiner_20 : decode cX12_joiner 20 = .ok (.iconst 1, 1) := by decide +kernel
theorem dX12_joiner_21 : decode cX12_joiner 21 = .ok (.iconst 1, 1) := by decide +kernel
theorem dX12_joiner_22 : decode cX12_joiner 22 = .ok (.invokevirtual 182, 3) := by decide +kernel
theorem dX12_joiner_25 : decode cX12_joiner 25 = .ok (.ifCond .eq 5, 3) := by decide +kernel
theorem dX12_joiner_28 : decode cX12_joiner 28 = .ok (.iconst 0, 1) := by decide +kernel
theorem dX12_joiner_29 : decode cX12_joiner 29 = .ok (.ireturn, 1) := by decide +kernel
theorem dX12_joiner_30 : decode cX12_joiner 30 = .ok (.iconst (-1), 1) := by decide +kernel
theorem dX12_joiner_31 : decode cX12_joiner 31 = .ok (.istore_n 2, 1) := by decide +kernel
theorem dX12_joiner_32 : decode cX12_joiner 32 = .ok (.iconst (-1), 1) := by decide +kernel
theorem dX12_joiner_33 : decode cX12_joiner 33 = .ok (.istore_n 3, 1) := by decide +kernel
theorem dX12_joiner_34 : decode cX12_joiner 34 = .ok (.iconst 0, 1) := by decide +kernel
theorem dX12_joiner_35 : decode cX12_joiner 35 = .ok (.istore 4, 2) := by decide +kernel
theorem dX12_joiner_37 : decode cX12_joiner 37 = .ok (.iload 4, 2) := by decide +kernel
theorem dX12_joiner_39 : decode cX12_joiner 39 = .ok (.bipush 10, 2) := by decide +kernel
theorem dX12_joiner_41 : decode cX12_joiner 41 = .ok (.if_icmp .ge 117, 3) := by decide +kernel
theorem dX12_joiner_44 : decode cX12_joiner 44 = .ok (.iload 4, 2) := by decide +kernel
theorem dX12_joiner_46 : decode cX12_joiner 46 = .ok (.iconst 1, 1) := by decide +kernel
theorem dX12_joiner_47 : decode cX12_joiner 47 = .ok (.iadd, 1) := by decide +kernel
theorem dX12_joiner_48 : decode cX12_joiner 48 = .ok (.istore 5, 2) := by decide +kernel
theorem dX12_joiner_50 : decode cX12_joiner 50 = .ok (.iload 5, 2) := by decide +kernel
theorem dX12_joiner_52 : decode cX12_joiner 52 = .ok (.bipush 10, 2) := by decide +kernel
theorem dX12_joiner_54 : decode cX12_joiner 54 = .ok (.if_icmp .ge 98, 3) := by decide +kernel
theorem dX12_joiner_57 : decode cX12_joiner 57 = .ok (.aload_n 0, 1) := by decide +kernel
theorem dX12_joiner_58 : decode cX12_joiner 58 = .ok (.iload 4, 2) := by decide +kernel
theorem dX12_joiner_60 : decode cX12_joiner 60 = .ok (.iload 5, 2) := by decide +kernel
theorem dX12_joiner_62 : decode cX12_joiner 62 = .ok (.invokevirtual 278, 3) := by decide +kernel
theorem dX12_joiner_65 : decode cX12_joiner 65 = .ok (.ifCond .eq 6, 3) := by decide +kernel
theorem dX12_joiner_68 : decode cX12_joiner 68 = .ok (.goto 78, 3) := by decide +kernel
theorem dX12_joiner_71 : decode cX12_joiner 71 = .ok (.aload_n 0, 1) := by decide +kernel
theorem dX12_joiner_72 : decode cX12_joiner 72 = .ok (.getfield 37, 3) := by decide +kernel
theorem dX12_joiner_75 : decode cX12_joiner 75 = .ok (.aload_n 0, 1) := by decide +kernel
theorem dX12_joiner_76 : decode cX12_joiner 76 = .ok (.getfield 199, 3) := by decide +kernel
theorem dX12_joiner_79 : decode cX12_joiner 79 = .ok (.aaload, 1) := by decide +kernel
theorem dX12_joiner_80 : decode cX12_joiner 80 = .ok (.iconst 0, 1) := by decide +kernel
theorem dX12_joiner_81 : decode cX12_joiner 81 = .ok (.iload 4, 2) := by decide +kernel
theorem dX12_joiner_83 : decode cX12_joiner 83 = .ok (.iastore, 1) := by decide +kernel
theorem dX12_joiner_84 : decode cX12_joiner 84 = .ok (.aload_n 0, 1) := by decide +kernel
theorem dX12_joiner_85 : decode cX12_joiner 85 = .ok (.getfield 37, 3) := by decide +kernel
theorem dX12_joiner_88 : decode cX12_joiner 88 = .ok (.aload_n 0, 1) := by decide +kernel
theorem dX12_joiner_89 : decode cX12_joiner 89 = .ok (.getfield 199, 3) := by decide +kernel
theorem dX12_joiner_92 : decode cX12_joiner 92 = .ok (.aaload, 1) := by decide +kernel
theorem dX12_joiner_93 : decode cX12_joiner 93 = .ok (.iconst 1, 1) := by decide +kernel
theorem dX12_joiner_94 : decode cX12_joiner 94 = .ok (.iload 5, 2) := by decide +kernel
theorem dX12_joiner_96 : decode cX12_joiner 96 = .ok (.iastore, 1) := by decide +kernel
theorem dX12_joiner_97 : decode cX12_joiner 97 = .ok (.aload_n 0, 1) := by decide +kernel
theorem dX12_joiner_98 : decode cX12_joiner 98 = .ok (.dup, 1) := by decide +kernel
theorem dX12_joiner_99 : decode cX12_joiner 99 = .ok (.getfield 199, 3) := by decide +kernel
theorem dX12_joiner_102 : decode cX12_joiner 102 = .ok (.iconst 1, 1) := by decide +kernel
theorem dX12_joiner_103 : decode cX12_joiner 103 = .ok (.iadd, 1) := by decide +kernel
theorem dX12_joiner_104 : decode cX12_joiner 104 = .ok (.putfield 199, 3) := by decide +kernel
theorem dX12_joiner_107 : decode cX12_joiner 107 = .ok (.aload_n 0, 1) := by decide +kernel
theorem dX12_joiner_108 : decode cX12_joiner 108 = .ok (.invokevirtual 381, 3) := by decide +kernel
theorem dX12_joiner_111 : decode cX12_joiner 111 = .ok (.aload_n 0, 1) := by decide +kernel
theorem dX12_joiner_112 : decode cX12_joiner 112 = .ok (.dup, 1) := by decide +kernel
theorem dX12_joiner_113 : decode cX12_joiner 113 = .ok (.getfield 199, 3) := by decide +kernel
theorem dX12_joiner_116 : decode cX12_joiner 116 = .ok (.iconst 1, 1) := by decide +kernel
theorem dX12_joiner_117 : decode cX12_joiner 117 = .ok (.isub, 1) := by decide +kernel
theorem dX12_joiner_118 : decode cX12_joiner 118 = .ok (.putfield 199, 3) := by decide +kernel
theorem dX12_joiner_121 : decode cX12_joiner 121 = .ok (.aload_n 0, 1) := by decide +kernel
theorem dX12_joiner_122 : decode cX12_joiner 122 = .ok (.getfield 378, 3) := by decide +kernel
theorem dX12_joiner_125 : decode cX12_joiner 125 = .ok (.iload_n 3, 1) := by decide +kernel
theorem dX12_joiner_126 : decode cX12_joiner 126 = .ok (.if_icmp .gt 6, 3) := by decide +kernel
theorem dX12_joiner_129 : decode cX12_joiner 129 = .ok (.goto 17, 3) := by decide +kernel
theorem dX12_joiner_132 : decode cX12_joiner 132 = .ok (.bipush 10, 2) := by decide +kernel
theorem dX12_joiner_134 : decode cX12_joiner 134 = .ok (.iload 4, 2) := by decide +kernel
theorem dX12_joiner_136 : decode cX12_joiner 136 = .ok (.imul, 1) := by decide +kernel
theorem dX12_joiner_137 : decode cX12_joiner 137 = .ok (.iload 5, 2) := by decide +kernel
theorem dX12_joiner_139 : decode cX12_joiner 139 = .ok (.iadd, 1) := by decide +kernel
theorem dX12_joiner_140 : decode cX12_joiner 140 = .ok (.istore_n 2, 1) := by decide +kernel
theorem dX12_joiner_141 : decode cX12_joiner 141 = .ok (.aload_n 0, 1) := by decide +kernel
theorem dX12_joiner_142 : decode cX12_joiner 142 = .ok (.getfield 378, 3) := by decide +kernel
theorem dX12_joiner_145 : decode cX12_joiner 145 = .ok (.istore_n 3, 1) := by decide +kernel
theorem dX12_joiner_146 : decode cX12_joiner 146 = .ok (.iinc 5 1, 3) := by decide +kernel
theorem dX12_joiner_149 : decode cX12_joiner 149 = .ok (.goto (-99), 3) := by decide +kernel
theorem dX12_joiner_152 : decode cX12_joiner 152 = .ok (.iinc 4 1, 3) := by decide +kernel
theorem dX12_joiner_155 : decode cX12_joiner 155 = .ok (.goto (-118), 3) := by decide +kernel
theorem dX12_joiner_158 : decode cX12_joiner 158 = .ok (.iload_n 1, 1) := by decide +kernel
theorem dX12_joiner_159 : decode cX12_joiner 159 = .ok (.ifCond .ne 7, 3) := by decide +kernel
theorem dX12_joiner_162 : decode cX12_joiner 162 = .ok (.iload_n 3, 1) := by decide +kernel
theorem dX12_joiner_163 : decode cX12_joiner 163 = .ok (.goto 4, 3) := by decide +kernel
theorem dX12_joiner_166 : decode cX12_joiner 166 = .ok (.iload_n 2, 1) := by decide +kernel
theorem dX12_joiner_167 : decode cX12_joiner 167 = .ok (.ireturn, 1) := by decide +kernel
theorem dX12_isBrief_0 : decode cX12_isBrief 0 = .ok (.iload_n 3, 1) := by decide +kernel
theorem dX12_isBrief_1 : decode cX12_isBrief 1 = .ok (.iload_n 2, 1) := by decide +kernel
theorem dX12_isBrief_2 : decode cX12_isBrief 2 = .ok (.if_icmp .ne 35, 3) := by decide +kernel
theorem dX12_isBrief_5 : decode cX12_isBrief 5 = .ok (.iload 7, 2) := by decide +kernel
theorem dX12_isBrief_7 : decode cX12_isBrief 7 = .ok (.aload_n 0, 1) := by decide +kernel
theorem dX12_isBrief_8 : decode cX12_isBrief 8 = .ok (.getfield 43, 3) := by decide +kernel
theorem dX12_isBrief_11 : decode cX12_isBrief 11 = .ok (.iload_n 1, 1) := by decide +kernel
theorem dX12_isBrief_12 : decode cX12_isBrief 12 = .ok (.aaload, 1) := by decide +kernel
theorem dX12_isBrief_13 : decode cX12_isBrief 13 = .ok (.iconst 0, 1) := by decide +kernel
theorem dX12_isBrief_14 : decode cX12_isBrief 14 = .ok (.iaload, 1) := by decide +kernel
theorem dX12_isBrief_15 : decode cX12_isBrief 15 = .ok (.if_icmp .lt 20, 3) := by decide +kernel
theorem dX12_isBrief_18 : decode cX12_isBrief 18 = .ok (.iload 6, 2) := by decide +kernel
theorem dX12_isBrief_20 : decode cX12_isBrief 20 = .ok (.aload_n 0, 1) := by decide +kernel
theorem dX12_isBrief_21 : decode cX12_isBrief 21 = .ok (.getfield 43, 3) := by decide +kernel
theorem dX12_isBrief_24 : decode cX12_isBrief 24 = .ok (.iload_n 1, 1) := by decide +kernel
theorem dX12_isBrief_25 : decode cX12_isBrief 25 = .ok (.aaload, 1) := by decide +kernel
theorem dX12_isBrief_26 : decode cX12_isBrief 26 = .ok (.iconst 1, 1) := by decide +kernel
theorem dX12_isBrief_27 : decode cX12_isBrief 27 = .ok (.iaload, 1) := by decide +kernel
theorem dX12_isBrief_28 : decode cX12_isBrief 28 = .ok (.if_icmp .lt 7, 3) := by decide +kernel
theorem dX12_isBrief_31 : decode cX12_isBrief 31 = .ok (.iconst 1, 1) := by decide +kernel
theorem dX12_isBrief_32 : decode cX12_isBrief 32 = .ok (.goto 4, 3) := by decide +kernel
theorem dX12_isBrief_35 : decode cX12_isBrief 35 = .ok (.iconst 0, 1) := by decide +kernel
theorem dX12_isBrief_36 : decode cX12_isBrief 36 = .ok (.ireturn, 1) := by decide +kernel
theorem dX12_isBrief_37 : decode cX12_isBrief 37 = .ok (.iload 5, 2) := by decide +kernel
theorem dX12_isBrief_39 : decode cX12_isBrief 39 = .ok (.iconst (-1), 1) := by decide +kernel
theorem dX12_isBrief_40 : decode cX12_isBrief 40 = .ok (.if_icmp .ne 8, 3) := by decide +kernel
theorem dX12_isBrief_43 : decode cX12_isBrief 43 = .ok (.bipush 10, 2) := by decide +kernel
theorem dX12_isBrief_45 : decode cX12_isBrief 45 = .ok (.goto 15, 3) := by decide +kernel
theorem dX12_isBrief_48 : decode cX12_isBrief 48 = .ok (.aload_n 0, 1) := by decide +kernel
theorem dX12_isBrief_49 : decode cX12_isBrief 49 = .ok (.iload 5, 2) := by decide +kernel
theorem dX12_isBrief_51 : decode cX12_isBrief 51 = .ok (.iconst 2, 1) := by decide +kernel
theorem dX12_isBrief_52 : decode cX12_isBrief 52 = .ok (.idiv, 1) := by decide +kernel
theorem dX12_isBrief_53 : decode cX12_isBrief 53 = .ok (.iload 5, 2) := by decide +kernel
theorem dX12_isBrief_55 : decode cX12_isBrief 55 = .ok (.iconst 2, 1) := by decide +kernel
theorem dX12_isBrief_56 : decode cX12_isBrief 56 = .ok (.irem, 1) := by decide +kernel
theorem dX12_isBrief_57 : decode cX12_isBrief 57 = .ok (.invokevirtual 272, 3) := by decide +kernel
theorem dX12_isBrief_60 : decode cX12_isBrief 60 = .ok (.istore 8, 2) := by decide +kernel
theorem dX12_isBrief_62 : decode cX12_isBrief 62 = .ok (.iconst 4, 1) := by decide +kernel
theorem dX12_isBrief_63 : decode cX12_isBrief 63 = .ok (.bipush 11, 2) := by decide +kernel
theorem dX12_isBrief_65 : decode cX12_isBrief 65 = .ok (.iload 4, 2) := by decide +kernel
theorem dX12_isBrief_67 : decode cX12_isBrief 67 = .ok (.imul, 1) := by decide +kernel
theorem dX12_isBrief_68 : decode cX12_isBrief 68 = .ok (.iload 8, 2) := by decide +kernel
theorem dX12_isBrief_70 : decode cX12_isBrief 70 = .ok (.iadd, 1) := by decide +kernel
theorem dX12_isBrief_71 : decode cX12_isBrief 71 = .ok (.imul, 1) := by decide +kernel
theorem dX12_isBrief_72 : decode cX12_isBrief 72 = .ok (.iload 6, 2) := by decide +kernel
theorem dX12_isBrief_74 : decode cX12_isBrief 74 = .ok (.bipush 32, 2) := by decide +kernel
theorem dX12_isBrief_76 : decode cX12_isBrief 76 = .ok (.idiv, 1) := by decide +kernel
theorem dX12_isBrief_77 : decode cX12_isBrief 77 = .ok (.iadd, 1) := by decide +kernel
theorem dX12_isBrief_78 : decode cX12_isBrief 78 = .ok (.istore 9, 2) := by decide +kernel
theorem dX12_isBrief_80 : decode cX12_isBrief 80 = .ok (.aload_n 0, 1) := by decide +kernel
theorem dX12_isBrief_81 : decode cX12_isBrief 81 = .ok (.getfield 88, 3) := by decide +kernel
theorem dX12_isBrief_84 : decode cX12_isBrief 84 = .ok (.iload 9, 2) := by decide +kernel
theorem dX12_isBrief_86 : decode cX12_isBrief 86 = .ok (.iaload, 1) := by decide +kernel
theorem dX12_isBrief_87 : decode cX12_isBrief 87 = .ok (.iload 6, 2) := by decide +kernel
theorem dX12_isBrief_89 : decode cX12_isBrief 89 = .ok (.bipush 32, 2) := by decide +kernel
theorem dX12_isBrief_91 : decode cX12_isBrief 91 = .ok (.irem, 1) := by decide +kernel
theorem dX12_isBrief_92 : decode cX12_isBrief 92 = .ok (.invokestatic 366, 3) := by decide +kernel
theorem dX12_isBrief_95 : decode cX12_isBrief 95 = .ok (.ifCond .eq 5, 3) := by decide +kernel
theorem dX12_isBrief_98 : decode cX12_isBrief 98 = .ok (.iconst 0, 1) := by decide +kernel
theorem dX12_isBrief_99 : decode cX12_isBrief 99 = .ok (.ireturn, 1) := by decide +kernel
theorem dX12_isBrief_100 : decode cX12_isBrief 100 = .ok (.iconst 0, 1) := by decide +kernel
theorem dX12_isBrief_101 : decode cX12_isBrief 101 = .ok (.istore 10, 2) := by decide +kernel
theorem dX12_isBrief_103 : decode cX12_isBrief 103 = .ok (.iload 10, 2) := by decide +kernel
theorem dX12_isBrief_105 : decode cX12_isBrief 105 = .ok (.iconst 2, 1) := by decide +kernel
theorem dX12_isBrief_106 : decode cX12_isBrief 106 = .ok (.aload_n 0, 1) := by decide +kernel
theorem dX12_isBrief_107 : decode cX12_isBrief 107 = .ok (.getfield 23, 3) := by decide +kernel
theorem dX12_isBrief_110 : decode cX12_isBrief 110 = .ok (.iconst 0, 1) := by decide +kernel
theorem dX12_isBrief_111 : decode cX12_isBrief 111 = .ok (.iaload, 1) := by decide +kernel
theorem dX12_isBrief_112 : decode cX12_isBrief 112 = .ok (.imul, 1) := by decide +kernel
theorem dX12_isBrief_113 : decode cX12_isBrief 113 = .ok (.if_icmp .ge 99, 3) := by decide +kernel
theorem dX12_isBrief_116 : decode cX12_isBrief 116 = .ok (.iload 10, 2) := by decide +kernel
theorem dX12_isBrief_118 : decode cX12_isBrief 118 = .ok (.iconst 2, 1) := by decide +kernel
theorem dX12_isBrief_119 : decode cX12_isBrief 119 = .ok (.idiv, 1) := by decide +kernel
theorem dX12_isBrief_120 : decode cX12_isBrief 120 = .ok (.istore 11, 2) := by decide +kernel
theorem dX12_isBrief_122 : decode cX12_isBrief 122 = .ok (.iload 4, 2) := by decide +kernel
theorem dX12_isBrief_124 : decode cX12_isBrief 124 = .ok (.iload 11, 2) := by decide +kernel
theorem dX12_isBrief_126 : decode cX12_isBrief 126 = .ok (.invokestatic 366, 3) := by decide +kernel
theorem dX12_isBrief_129 : decode cX12_isBrief 129 = .ok (.ifCond .ne 77, 3) := by decide +kernel
theorem dX12_isBrief_132 : decode cX12_isBrief 132 = .ok (.aload_n 0, 1) := by decide +kernel
theorem dX12_isBrief_133 : decode cX12_isBrief 133 = .ok (.iload 5, 2) := by decide +kernel
theorem dX12_isBrief_135 : decode cX12_isBrief 135 = .ok (.iload 10, 2) := by decide +kernel
theorem dX12_isBrief_137 : decode cX12_isBrief 137 = .ok (.invokevirtual 369, 3) := by decide +kernel
theorem dX12_isBrief_140 : decode cX12_isBrief 140 = .ok (.ifCond .ne 6, 3) := by decide +kernel
theorem dX12_isBrief_143 : decode cX12_isBrief 143 = .ok (.goto 63, 3) := by decide +kernel
theorem dX12_isBrief_146 : decode cX12_isBrief 146 = .ok (.aload_n 0, 1) := by decide +kernel
theorem dX12_isBrief_147 : decode cX12_isBrief 147 = .ok (.getfield 91, 3) := by decide +kernel
theorem dX12_isBrief_150 : decode cX12_isBrief 150 = .ok (.iload_n 3, 1) := by decide +kernel
theorem dX12_isBrief_151 : decode cX12_isBrief 151 = .ok (.iload 10, 2) := by decide +kernel
theorem dX12_isBrief_153 : decode cX12_isBrief 153 = .ok (.iastore, 1) := by decide +kernel
theorem dX12_isBrief_154 : decode cX12_isBrief 154 = .ok (.aload_n 0, 1) := by decide +kernel
theorem dX12_isBrief_155 : decode cX12_isBrief 155 = .ok (.iload_n 1, 1) := by decide +kernel
theorem dX12_isBrief_156 : decode cX12_isBrief 156 = .ok (.iload_n 2, 1) := by decide +kernel
theorem dX12_isBrief_157 : decode cX12_isBrief 157 = .ok (.iload_n 3, 1) := by decide +kernel
theorem dX12_isBrief_158 : decode cX12_isBrief 158 = .ok (.iconst 1, 1) := by decide +kernel
theorem dX12_isBrief_159 : decode cX12_isBrief 159 = .ok (.iadd, 1) := by decide +kernel
theorem dX12_isBrief_160 : decode cX12_isBrief 160 = .ok (.iload 4, 2) := by decide +kernel
theorem dX12_isBrief_162 : decode cX12_isBrief 162 = .ok (.iconst 1, 1) := by decide +kernel
theorem dX12_isBrief_163 : decode cX12_isBrief 163 = .ok (.iload 11, 2) := by decide +kernel
theorem dX12_isBrief_165 : decode cX12_isBrief 165 = .ok (.ishl, 1) := by decide +kernel
theorem dX12_isBrief_166 : decode cX12_isBrief 166 = .ok (.ior, 1) := by decide +kernel
theorem dX12_isBrief_167 : decode cX12_isBrief 167 = .ok (.iload 10, 2) := by decide +kernel
theorem dX12_isBrief_169 : decode cX12_isBrief 169 = .ok (.aload_n 0, 1) := by decide +kernel
theorem dX12_isBrief_170 : decode cX12_isBrief 170 = .ok (.aload_n 0, 1) := by decide +kernel
theorem dX12_isBrief_171 : decode cX12_isBrief 171 = .ok (.getfield 67, 3) := by decide +kernel
theorem dX12_isBrief_174 : decode cX12_isBrief 174 = .ok (.iload 11, 2) := by decide +kernel
theorem dX12_isBrief_176 : decode cX12_isBrief 176 = .ok (.iload 10, 2) := by decide +kernel
theorem dX12_isBrief_178 : decode cX12_isBrief 178 = .ok (.iconst 2, 1) := by decide +kernel
theorem dX12_isBrief_179 : decode cX12_isBrief 179 = .ok (.irem, 1) := by decide +kernel
theorem dX12_isBrief_180 : decode cX12_isBrief 180 = .ok (.iload 6, 2) := by decide +kernel
theorem dX12_isBrief_182 : decode cX12_isBrief 182 = .ok (.iload_n 3, 1) := by decide +kernel
theorem dX12_isBrief_183 : decode cX12_isBrief 183 = .ok (.invokevirtual 289, 3) := by decide +kernel
theorem dX12_isBrief_186 : decode cX12_isBrief 186 = .ok (.iload 7, 2) := by decide +kernel
theorem dX12_isBrief_188 : decode cX12_isBrief 188 = .ok (.aload_n 0, 1) := by decide +kernel
theorem dX12_isBrief_189 : decode cX12_isBrief 189 = .ok (.getfield 31, 3) := by decide +kernel
theorem dX12_isBrief_192 : decode cX12_isBrief 192 = .ok (.iload 11, 2) := by decide +kernel
theorem dX12_isBrief_194 : decode cX12_isBrief 194 = .ok (.aaload, 1) := by decide +kernel
theorem dX12_isBrief_195 : decode cX12_isBrief 195 = .ok (.iconst 0, 1) := by decide +kernel
theorem dX12_isBrief_196 : decode cX12_isBrief 196 = .ok (.iaload, 1) := by decide +kernel
theorem dX12_isBrief_197 : decode cX12_isBrief 197 = .ok (.iadd, 1) := by decide +kernel
theorem dX12_isBrief_198 : decode cX12_isBrief 198 = .ok (.invokevirtual 384, 3) := by decide +kernel
theorem dX12_isBrief_201 : decode cX12_isBrief 201 = .ok (.ifCond .eq 5, 3) := by decide +kernel
theorem dX12_isBrief_204 : decode cX12_isBrief 204 = .ok (.iconst 1, 1) := by decide +kernel
theorem dX12_isBrief_205 : decode cX12_isBrief 205 = .ok (.ireturn, 1) := by decide +kernel
theorem dX12_isBrief_206 : decode cX12_isBrief 206 = .ok (.iinc 10 1, 3) := by decide +kernel
theorem dX12_isBrief_209 : decode cX12_isBrief 209 = .ok (.goto (-106), 3) := by decide +kernel
theorem dX12_isBrief_212 : decode cX12_isBrief 212 = .ok (.aload_n 0, 1) := by decide +kernel
theorem dX12_isBrief_213 : decode cX12_isBrief 213 = .ok (.getfield 88, 3) := by decide +kernel
theorem dX12_isBrief_216 : decode cX12_isBrief 216 = .ok (.iload 9, 2) := by decide +kernel
theorem dX12_isBrief_218 : decode cX12_isBrief 218 = .ok (.dup2, 1) := by decide +kernel
theorem dX12_isBrief_219 : decode cX12_isBrief 219 = .ok (.iaload, 1) := by decide +kernel
theorem dX12_isBrief_220 : decode cX12_isBrief 220 = .ok (.iconst 1, 1) := by decide +kernel
theorem dX12_isBrief_221 : decode cX12_isBrief 221 = .ok (.iload 6, 2) := by decide +kernel
theorem dX12_isBrief_223 : decode cX12_isBrief 223 = .ok (.bipush 32, 2) := by decide +kernel
theorem dX12_isBrief_225 : decode cX12_isBrief 225 = .ok (.irem, 1) := by decide +kernel
theorem dX12_isBrief_226 : decode cX12_isBrief 226 = .ok (.ishl, 1) := by decide +kernel
theorem dX12_isBrief_227 : decode cX12_isBrief 227 = .ok (.ior, 1) := by decide +kernel
theorem dX12_isBrief_228 : decode cX12_isBrief 228 = .ok (.iastore, 1) := by decide +kernel
theorem dX12_isBrief_229 : decode cX12_isBrief 229 = .ok (.iconst 0, 1) := by decide +kernel
theorem dX12_isBrief_230 : decode cX12_isBrief 230 = .ok (.ireturn, 1) := by decide +kernel
theorem dX12_briefs_0 : decode cX12_briefs 0 = .ok (.iconst 0, 1) := by decide +kernel
theorem dX12_briefs_1 : decode cX12_briefs 1 = .ok (.istore_n 2, 1) := by decide +kernel
theorem dX12_briefs_2 : decode cX12_briefs 2 = .ok (.iload_n 2, 1) := by decide +kernel
theorem dX12_briefs_3 : decode cX12_briefs 3 = .ok (.aload_n 0, 1) := by decide +kernel
theorem dX12_briefs_4 : decode cX12_briefs 4 = .ok (.getfield 23, 3) := by decide +kernel
theorem dX12_briefs_7 : decode cX12_briefs 7 = .ok (.iconst 0, 1) := by decide +kernel
theorem dX12_briefs_8 : decode cX12_briefs 8 = .ok (.iaload, 1) := by decide +kernel
theorem dX12_briefs_9 : decode cX12_briefs 9 = .ok (.if_icmp .gt 55, 3) := by decide +kernel
theorem dX12_briefs_12 : decode cX12_briefs 12 = .ok (.iconst 0, 1) := by decide +kernel
theorem dX12_briefs_13 : decode cX12_briefs 13 = .ok (.istore_n 3, 1) := by decide +kernel
theorem dX12_briefs_14 : decode cX12_briefs 14 = .ok (.iload_n 3, 1) := by decide +kernel
theorem dX12_briefs_15 : decode cX12_briefs 15 = .ok (.aload_n 0, 1) := by decide +kernel
theorem dX12_briefs_16 : decode cX12_briefs 16 = .ok (.getfield 88, 3) := by decide +kernel
theorem dX12_briefs_19 : decode cX12_briefs 19 = .ok (.arraylength, 1) := by decide +kernel
theorem dX12_briefs_20 : decode cX12_briefs 20 = .ok (.if_icmp .ge 16, 3) := by decide +kernel
theorem dX12_briefs_23 : decode cX12_briefs 23 = .ok (.aload_n 0, 1) := by decide +kernel
theorem dX12_briefs_24 : decode cX12_briefs 24 = .ok (.getfield 88, 3) := by decide +kernel
theorem dX12_briefs_27 : decode cX12_briefs 27 = .ok (.iload_n 3, 1) := by decide +kernel
theorem dX12_briefs_28 : decode cX12_briefs 28 = .ok (.iconst 0, 1) := by decide +kernel
theorem dX12_briefs_29 : decode cX12_briefs 29 = .ok (.iastore, 1) := by decide +kernel
theorem dX12_briefs_30 : decode cX12_briefs 30 = .ok (.iinc 3 1, 3) := by decide +kernel
theorem dX12_briefs_33 : decode cX12_briefs 33 = .ok (.goto (-19), 3) := by decide +kernel
theorem dX12_briefs_36 : decode cX12_briefs 36 = .ok (.aload_n 0, 1) := by decide +kernel
theorem dX12_briefs_37 : decode cX12_briefs 37 = .ok (.iload_n 1, 1) := by decide +kernel
theorem dX12_briefs_38 : decode cX12_briefs 38 = .ok (.iload_n 2, 1) := by decide +kernel
theorem dX12_briefs_39 : decode cX12_briefs 39 = .ok (.iconst 0, 1) := by decide +kernel
theorem dX12_briefs_40 : decode cX12_briefs 40 = .ok (.iconst 0, 1) := by decide +kernel
theorem dX12_briefs_41 : decode cX12_briefs 41 = .ok (.iconst (-1), 1) := by decide +kernel
theorem dX12_briefs_42 : decode cX12_briefs 42 = .ok (.aload_n 0, 1) := by decide +kernel
theorem dX12_briefs_43 : decode cX12_briefs 43 = .ok (.getfield 67, 3) := by decide +kernel
theorem dX12_briefs_46 : decode cX12_briefs 46 = .ok (.bipush 29, 2) := by decide +kernel
theorem dX12_briefs_48 : decode cX12_briefs 48 = .ok (.iaload, 1) := by decide +kernel
theorem dX12_briefs_49 : decode cX12_briefs 49 = .ok (.iconst 0, 1) := by decide +kernel
theorem dX12_briefs_50 : decode cX12_briefs 50 = .ok (.invokevirtual 384, 3) := by decide +kernel
theorem dX12_briefs_53 : decode cX12_briefs 53 = .ok (.ifCond .eq 5, 3) := by decide +kernel
theorem dX12_briefs_56 : decode cX12_briefs 56 = .ok (.iload_n 2, 1) := by decide +kernel
theorem dX12_briefs_57 : decode cX12_briefs 57 = .ok (.ireturn, 1) := by decide +kernel
theorem dX12_briefs_58 : decode cX12_briefs 58 = .ok (.iinc 2 1, 3) := by decide +kernel
theorem dX12_briefs_61 : decode cX12_briefs 61 = .ok (.goto (-59), 3) := by decide +kernel
theorem dX12_briefs_64 : decode cX12_briefs 64 = .ok (.iconst (-1), 1) := by decide +kernel
theorem dX12_briefs_65 : decode cX12_briefs 65 = .ok (.ireturn, 1) := by decide +kernel
theorem dX12_brief_0 : decode cX12_brief 0 = .ok (.aload_n 0, 1) := by decide +kernel
theorem dX12_brief_1 : decode cX12_brief 1 = .ok (.iconst 0, 1) := by decide +kernel
theorem dX12_brief_2 : decode cX12_brief 2 = .ok (.putfield 103, 3) := by decide +kernel
theorem dX12_brief_5 : decode cX12_brief 5 = .ok (.aload_n 0, 1) := by decide +kernel
theorem dX12_brief_6 : decode cX12_brief 6 = .ok (.aload_n 0, 1) := by decide +kernel
theorem dX12_brief_7 : decode cX12_brief 7 = .ok (.iload_n 1, 1) := by decide +kernel
theorem dX12_brief_8 : decode cX12_brief 8 = .ok (.invokevirtual 360, 3) := by decide +kernel
theorem dX12_brief_11 : decode cX12_brief 11 = .ok (.ifCond .ne 7, 3) := by decide +kernel
theorem dX12_brief_14 : decode cX12_brief 14 = .ok (.iconst 1, 1) := by decide +kernel
theorem dX12_brief_15 : decode cX12_brief 15 = .ok (.goto 4, 3) := by decide +kernel
theorem dX12_brief_18 : decode cX12_brief 18 = .ok (.iconst 0, 1) := by decide +kernel
theorem dX12_brief_19 : decode cX12_brief 19 = .ok (.iconst 1, 1) := by decide +kernel
theorem dX12_brief_20 : decode cX12_brief 20 = .ok (.iconst 0, 1) := by decide +kernel
theorem dX12_brief_21 : decode cX12_brief 21 = .ok (.invokevirtual 182, 3) := by decide +kernel
theorem dX12_brief_24 : decode cX12_brief 24 = .ok (.ifCond .eq 5, 3) := by decide +kernel
theorem dX12_brief_27 : decode cX12_brief 27 = .ok (.iconst 0, 1) := by decide +kernel
theorem dX12_brief_28 : decode cX12_brief 28 = .ok (.ireturn, 1) := by decide +kernel
theorem dX12_brief_29 : decode cX12_brief 29 = .ok (.aload_n 0, 1) := by decide +kernel
theorem dX12_brief_30 : decode cX12_brief 30 = .ok (.iload_n 1, 1) := by decide +kernel
theorem dX12_brief_31 : decode cX12_brief 31 = .ok (.invokevirtual 388, 3) := by decide +kernel
theorem dX12_brief_34 : decode cX12_brief 34 = .ok (.ireturn, 1) := by decide +kernel
theorem dX12_briefly_0 : decode cX12_briefly 0 = .ok (.aload_n 0, 1) := by decide +kernel
theorem dX12_briefly_1 : decode cX12_briefly 1 = .ok (.iconst 0, 1) := by decide +kernel
theorem dX12_briefly_2 : decode cX12_briefly 2 = .ok (.putfield 103, 3) := by decide +kernel
theorem dX12_briefly_5 : decode cX12_briefly 5 = .ok (.aload_n 0, 1) := by decide +kernel
theorem dX12_briefly_6 : decode cX12_briefly 6 = .ok (.aload_n 0, 1) := by decide +kernel
theorem dX12_briefly_7 : decode cX12_briefly 7 = .ok (.iload_n 1, 1) := by decide +kernel
theorem dX12_briefly_8 : decode cX12_briefly 8 = .ok (.invokevirtual 360, 3) := by decide +kernel
theorem dX12_briefly_11 : decode cX12_briefly 11 = .ok (.ifCond .ne 7, 3) := by decide +kernel
theorem dX12_briefly_14 : decode cX12_briefly 14 = .ok (.iconst 1, 1) := by decide +kernel
theorem dX12_briefly_15 : decode cX12_briefly 15 = .ok (.goto 4, 3) := by decide +kernel
theorem dX12_briefly_18 : decode cX12_briefly 18 = .ok (.iconst 0, 1) := by decide +kernel
theorem dX12_briefly_19 : decode cX12_briefly 19 = .ok (.iconst 1, 1) := by decide +kernel
theorem dX12_briefly_20 : decode cX12_briefly 20 = .ok (.iconst 0, 1) := by decide +kernel
theorem dX12_briefly_21 : decode cX12_briefly 21 = .ok (.invokevirtual 182, 3) := by decide +kernel
theorem dX12_briefly_24 : decode cX12_briefly 24 = .ok (.ifCond .ne 21, 3) := by decide +kernel
theorem dX12_briefly_27 : decode cX12_briefly 27 = .ok (.aload_n 0, 1) := by decide +kernel
theorem dX12_briefly_28 : decode cX12_briefly 28 = .ok (.iload_n 2, 1) := by decide +kernel
theorem dX12_briefly_29 : decode cX12_briefly 29 = .ok (.ifCond .ge 7, 3) := by decide +kernel
theorem dX12_briefly_32 : decode cX12_briefly 32 = .ok (.iconst 1, 1) := by decide +kernel
theorem dX12_briefly_33 : decode cX12_briefly 33 = .ok (.goto 4, 3) := by decide +kernel
theorem dX12_briefly_36 : decode cX12_briefly 36 = .ok (.iconst 0, 1) := by decide +kernel
theorem dX12_briefly_37 : decode cX12_briefly 37 = .ok (.iconst 2, 1) := by decide +kernel
theorem dX12_briefly_38 : decode cX12_briefly 38 = .ok (.iconst 1, 1) := by decide +kernel
theorem dX12_briefly_39 : decode cX12_briefly 39 = .ok (.invokevirtual 182, 3) := by decide +kernel
theorem dX12_briefly_42 : decode cX12_briefly 42 = .ok (.ifCond .eq 5, 3) := by decide +kernel
theorem dX12_briefly_45 : decode cX12_briefly 45 = .ok (.iconst 0, 1) := by decide +kernel
theorem dX12_briefly_46 : decode cX12_briefly 46 = .ok (.ireturn, 1) := by decide +kernel
theorem dX12_briefly_47 : decode cX12_briefly 47 = .ok (.iload_n 2, 1) := by decide +kernel
theorem dX12_briefly_48 : decode cX12_briefly 48 = .ok (.aload_n 0, 1) := by decide +kernel
theorem dX12_briefly_49 : decode cX12_briefly 49 = .ok (.iload_n 1, 1) := by decide +kernel
theorem dX12_briefly_50 : decode cX12_briefly 50 = .ok (.invokevirtual 388, 3) := by decide +kernel
theorem dX12_briefly_53 : decode cX12_briefly 53 = .ok (.if_icmp .ge 12, 3) := by decide +kernel
theorem dX12_briefly_56 : decode cX12_briefly 56 = .ok (.aload_n 0, 1) := by decide +kernel
theorem dX12_briefly_57 : decode cX12_briefly 57 = .ok (.getfield 91, 3) := by decide +kernel
theorem dX12_briefly_60 : decode cX12_briefly 60 = .ok (.iload_n 2, 1) := by decide +kernel
theorem dX12_briefly_61 : decode cX12_briefly 61 = .ok (.iaload, 1) := by decide +kernel
theorem dX12_briefly_62 : decode cX12_briefly 62 = .ok (.goto 4, 3) := by decide +kernel
theorem dX12_briefly_65 : decode cX12_briefly 65 = .ok (.iconst (-1), 1) := by decide +kernel
theorem dX12_briefly_66 : decode cX12_briefly 66 = .ok (.ireturn, 1) := by decide +kernel
theorem dX12_isLeak_0 : decode cX12_isLeak 0 = .ok (.aload_n 0, 1) := by decide +kernel
theorem dX12_isLeak_1 : decode cX12_isLeak 1 = .ok (.aload_n 0, 1) := by decide +kernel
theorem dX12_isLeak_2 : decode cX12_isLeak 2 = .ok (.getfield 67, 3) := by decide +kernel
theorem dX12_isLeak_5 : decode cX12_isLeak 5 = .ok (.iload_n 1, 1) := by decide +kernel
theorem dX12_isLeak_6 : decode cX12_isLeak 6 = .ok (.iload_n 2, 1) := by decide +kernel
theorem dX12_isLeak_7 : decode cX12_isLeak 7 = .ok (.invokevirtual 293, 3) := by decide +kernel
theorem dX12_isLeak_10 : decode cX12_isLeak 10 = .ok (.pop, 1) := by decide +kernel
theorem dX12_isLeak_11 : decode cX12_isLeak 11 = .ok (.iconst 0, 1) := by decide +kernel
theorem dX12_isLeak_12 : decode cX12_isLeak 12 = .ok (.istore_n 3, 1) := by decide +kernel
theorem dX12_isLeak_13 : decode cX12_isLeak 13 = .ok (.iload_n 3, 1) := by decide +kernel
theorem dX12_isLeak_14 : decode cX12_isLeak 14 = .ok (.aload_n 0, 1) := by decide +kernel
theorem dX12_isLeak_15 : decode cX12_isLeak 15 = .ok (.getfield 205, 3) := by decide +kernel
theorem dX12_isLeak_18 : decode cX12_isLeak 18 = .ok (.if_icmp .ge 53, 3) := by decide +kernel
theorem dX12_isLeak_21 : decode cX12_isLeak 21 = .ok (.aload_n 0, 1) := by decide +kernel
theorem dX12_isLeak_22 : decode cX12_isLeak 22 = .ok (.getfield 52, 3) := by decide +kernel
theorem dX12_isLeak_25 : decode cX12_isLeak 25 = .ok (.iload_n 3, 1) := by decide +kernel
theorem dX12_isLeak_26 : decode cX12_isLeak 26 = .ok (.aaload, 1) := by decide +kernel
theorem dX12_isLeak_27 : decode cX12_isLeak 27 = .ok (.iconst 0, 1) := by decide +kernel
theorem dX12_isLeak_28 : decode cX12_isLeak 28 = .ok (.iaload, 1) := by decide +kernel
theorem dX12_isLeak_29 : decode cX12_isLeak 29 = .ok (.aload_n 0, 1) := by decide +kernel
theorem dX12_isLeak_30 : decode cX12_isLeak 30 = .ok (.getfield 67, 3) := by decide +kernel
theorem dX12_isLeak_33 : decode cX12_isLeak 33 = .ok (.invokestatic 264, 3) := by decide +kernel
theorem dX12_isLeak_36 : decode cX12_isLeak 36 = .ok (.if_icmp .ge 27, 3) := by decide +kernel
theorem dX12_isLeak_39 : decode cX12_isLeak 39 = .ok (.aload_n 0, 1) := by decide +kernel
theorem dX12_isLeak_40 : decode cX12_isLeak 40 = .ok (.getfield 73, 3) := by decide +kernel
theorem dX12_isLeak_43 : decode cX12_isLeak 43 = .ok (.aload_n 0, 1) := by decide +kernel
theorem dX12_isLeak_44 : decode cX12_isLeak 44 = .ok (.getfield 52, 3) := by decide +kernel
theorem dX12_isLeak_47 : decode cX12_isLeak 47 = .ok (.iload_n 3, 1) := by decide +kernel
theorem dX12_isLeak_48 : decode cX12_isLeak 48 = .ok (.aaload, 1) := by decide +kernel
theorem dX12_isLeak_49 : decode cX12_isLeak 49 = .ok (.iconst 0, 1) := by decide +kernel
theorem dX12_isLeak_50 : decode cX12_isLeak 50 = .ok (.iaload, 1) := by decide +kernel
theorem dX12_isLeak_51 : decode cX12_isLeak 51 = .ok (.iaload, 1) := by decide +kernel
theorem dX12_isLeak_52 : decode cX12_isLeak 52 = .ok (.aload_n 0, 1) := by decide +kernel
theorem dX12_isLeak_53 : decode cX12_isLeak 53 = .ok (.getfield 52, 3) := by decide +kernel
theorem dX12_isLeak_56 : decode cX12_isLeak 56 = .ok (.iload_n 3, 1) := by decide +kernel
theorem dX12_isLeak_57 : decode cX12_isLeak 57 = .ok (.aaload, 1) := by decide +kernel
theorem dX12_isLeak_58 : decode cX12_isLeak 58 = .ok (.iconst 1, 1) := by decide +kernel
theorem dX12_isLeak_59 : decode cX12_isLeak 59 = .ok (.iaload, 1) := by decide +kernel
theorem dX12_isLeak_60 : decode cX12_isLeak 60 = .ok (.if_icmp .eq 5, 3) := by decide +kernel
theorem dX12_isLeak_63 : decode cX12_isLeak 63 = .ok (.iconst 0, 1) := by decide +kernel
theorem dX12_isLeak_64 : decode cX12_isLeak 64 = .ok (.ireturn, 1) := by decide +kernel
theorem dX12_isLeak_65 : decode cX12_isLeak 65 = .ok (.iinc 3 1, 3) := by decide +kernel
theorem dX12_isLeak_68 : decode cX12_isLeak 68 = .ok (.goto (-55), 3) := by decide +kernel
theorem dX12_isLeak_71 : decode cX12_isLeak 71 = .ok (.iconst 1, 1) := by decide +kernel
theorem dX12_isLeak_72 : decode cX12_isLeak 72 = .ok (.ireturn, 1) := by decide +kernel
theorem dX12_leaks_0 : decode cX12_leaks 0 = .ok (.aload_n 0, 1) := by decide +kernel
theorem dX12_leaks_1 : decode cX12_leaks 1 = .ok (.iconst 0, 1) := by decide +kernel
theorem dX12_leaks_2 : decode cX12_leaks 2 = .ok (.putfield 103, 3) := by decide +kernel
theorem dX12_leaks_5 : decode cX12_leaks 5 = .ok (.aload_n 0, 1) := by decide +kernel
theorem dX12_leaks_6 : decode cX12_leaks 6 = .ok (.iload_n 1, 1) := by decide +kernel
theorem dX12_leaks_7 : decode cX12_leaks 7 = .ok (.iconst 0, 1) := by decide +kernel
theorem dX12_leaks_8 : decode cX12_leaks 8 = .ok (.iconst 1, 1) := by decide +kernel
theorem dX12_leaks_9 : decode cX12_leaks 9 = .ok (.invokestatic 137, 3) := by decide +kernel
theorem dX12_leaks_12 : decode cX12_leaks 12 = .ok (.ifCond .ne 7, 3) := by decide +kernel
theorem dX12_leaks_15 : decode cX12_leaks 15 = .ok (.iconst 1, 1) := by decide +kernel
theorem dX12_leaks_16 : decode cX12_leaks 16 = .ok (.goto 4, 3) := by decide +kernel
theorem dX12_leaks_19 : decode cX12_leaks 19 = .ok (.iconst 0, 1) := by decide +kernel
theorem dX12_leaks_20 : decode cX12_leaks 20 = .ok (.iconst 1, 1) := by decide +kernel
theorem dX12_leaks_21 : decode cX12_leaks 21 = .ok (.iconst 1, 1) := by decide +kernel
theorem dX12_leaks_22 : decode cX12_leaks 22 = .ok (.invokevirtual 182, 3) := by decide +kernel
theorem dX12_leaks_25 : decode cX12_leaks 25 = .ok (.ifCond .eq 5, 3) := by decide +kernel
theorem dX12_leaks_28 : decode cX12_leaks 28 = .ok (.iconst 0, 1) := by decide +kernel
theorem dX12_leaks_29 : decode cX12_leaks 29 = .ok (.ireturn, 1) := by decide +kernel
theorem dX12_leaks_30 : decode cX12_leaks 30 = .ok (.iconst 0, 1) := by decide +kernel
theorem dX12_leaks_31 : decode cX12_leaks 31 = .ok (.istore_n 2, 1) := by decide +kernel
theorem dX12_leaks_32 : decode cX12_leaks 32 = .ok (.iconst (-1), 1) := by decide +kernel
theorem dX12_leaks_33 : decode cX12_leaks 33 = .ok (.istore_n 3, 1) := by decide +kernel
theorem dX12_leaks_34 : decode cX12_leaks 34 = .ok (.iconst 0, 1) := by decide +kernel
theorem dX12_leaks_35 : decode cX12_leaks 35 = .ok (.istore 4, 2) := by decide +kernel
theorem dX12_leaks_37 : decode cX12_leaks 37 = .ok (.iload 4, 2) := by decide +kernel
theorem dX12_leaks_39 : decode cX12_leaks 39 = .ok (.aload_n 0, 1) := by decide +kernel
theorem dX12_leaks_40 : decode cX12_leaks 40 = .ok (.getfield 67, 3) := by decide +kernel
theorem dX12_leaks_43 : decode cX12_leaks 43 = .ok (.invokestatic 264, 3) := by decide +kernel
theorem dX12_leaks_46 : decode cX12_leaks 46 = .ok (.if_icmp .ge 59, 3) := by decide +kernel
theorem dX12_leaks_49 : decode cX12_leaks 49 = .ok (.iconst 1, 1) := by decide +kernel
theorem dX12_leaks_50 : decode cX12_leaks 50 = .ok (.istore 5, 2) := by decide +kernel
theorem dX12_leaks_52 : decode cX12_leaks 52 = .ok (.iload 5, 2) := by decide +kernel
theorem dX12_leaks_54 : decode cX12_leaks 54 = .ok (.bipush 30, 2) := by decide +kernel
theorem dX12_leaks_56 : decode cX12_leaks 56 = .ok (.if_icmp .gt 43, 3) := by decide +kernel
theorem dX12_leaks_59 : decode cX12_leaks 59 = .ok (.aload_n 0, 1) := by decide +kernel
theorem dX12_leaks_60 : decode cX12_leaks 60 = .ok (.iload 4, 2) := by decide +kernel
theorem dX12_leaks_62 : decode cX12_leaks 62 = .ok (.iload 5, 2) := by decide +kernel
theorem dX12_leaks_64 : decode cX12_leaks 64 = .ok (.invokevirtual 391, 3) := by decide +kernel
theorem dX12_leaks_67 : decode cX12_leaks 67 = .ok (.ifCond .ne 6, 3) := by decide +kernel
theorem dX12_leaks_70 : decode cX12_leaks 70 = .ok (.goto 23, 3) := by decide +kernel
theorem dX12_leaks_73 : decode cX12_leaks 73 = .ok (.iload_n 2, 1) := by decide +kernel
theorem dX12_leaks_74 : decode cX12_leaks 74 = .ok (.ifCond .ne 14, 3) := by decide +kernel
theorem dX12_leaks_77 : decode cX12_leaks 77 = .ok (.bipush 100, 2) := by decide +kernel
theorem dX12_leaks_79 : decode cX12_leaks 79 = .ok (.iload 4, 2) := by decide +kernel
theorem dX12_leaks_81 : decode cX12_leaks 81 = .ok (.imul, 1) := by decide +kernel
theorem dX12_leaks_82 : decode cX12_leaks 82 = .ok (.iload 5, 2) := by decide +kernel
theorem dX12_leaks_84 : decode cX12_leaks 84 = .ok (.iadd, 1) := by decide +kernel
theorem dX12_leaks_85 : decode cX12_leaks 85 = .ok (.goto 4, 3) := by decide +kernel
theorem dX12_leaks_88 : decode cX12_leaks 88 = .ok (.iload_n 3, 1) := by decide +kernel
theorem dX12_leaks_89 : decode cX12_leaks 89 = .ok (.istore_n 3, 1) := by decide +kernel
theorem dX12_leaks_90 : decode cX12_leaks 90 = .ok (.iinc 2 1, 3) := by decide +kernel
theorem dX12_leaks_93 : decode cX12_leaks 93 = .ok (.iinc 5 1, 3) := by decide +kernel
theorem dX12_leaks_96 : decode cX12_leaks 96 = .ok (.goto (-44), 3) := by decide +kernel
theorem dX12_leaks_99 : decode cX12_leaks 99 = .ok (.iinc 4 1, 3) := by decide +kernel
theorem dX12_leaks_102 : decode cX12_leaks 102 = .ok (.goto (-65), 3) := by decide +kernel
theorem dX12_leaks_105 : decode cX12_leaks 105 = .ok (.iload_n 1, 1) := by decide +kernel
theorem dX12_leaks_106 : decode cX12_leaks 106 = .ok (.ifCond .ne 7, 3) := by decide +kernel
theorem dX12_leaks_109 : decode cX12_leaks 109 = .ok (.iload_n 2, 1) := by decide +kernel
theorem dX12_leaks_110 : decode cX12_leaks 110 = .ok (.goto 4, 3) := by decide +kernel
theorem dX12_leaks_113 : decode cX12_leaks 113 = .ok (.iload_n 3, 1) := by decide +kernel
theorem dX12_leaks_114 : decode cX12_leaks 114 = .ok (.ireturn, 1) := by decide +kernel
theorem dX12_isTold_0 : decode cX12_isTold 0 = .ok (.iconst 0, 1) := by decide +kernel
theorem dX12_isTold_1 : decode cX12_isTold 1 = .ok (.istore_n 2, 1) := by decide +kernel
theorem dX12_isTold_2 : decode cX12_isTold 2 = .ok (.iload_n 2, 1) := by decide +kernel
theorem dX12_isTold_3 : decode cX12_isTold 3 = .ok (.aload_n 0, 1) := by decide +kernel
theorem dX12_isTold_4 : decode cX12_isTold 4 = .ok (.getfield 205, 3) := by decide +kernel
theorem dX12_isTold_7 : decode cX12_isTold 7 = .ok (.if_icmp .ge 23, 3) := by decide +kernel
theorem dX12_isTold_10 : decode cX12_isTold 10 = .ok (.aload_n 0, 1) := by decide +kernel
theorem dX12_isTold_11 : decode cX12_isTold 11 = .ok (.getfield 52, 3) := by decide +kernel
theorem dX12_isTold_14 : decode cX12_isTold 14 = .ok (.iload_n 2, 1) := by decide +kernel
theorem dX12_isTold_15 : decode cX12_isTold 15 = .ok (.aaload, 1) := by decide +kernel
theorem dX12_isTold_16 : decode cX12_isTold 16 = .ok (.iconst 0, 1) := by decide +kernel
theorem dX12_isTold_17 : decode cX12_isTold 17 = .ok (.iaload, 1) := by decide +kernel
theorem dX12_isTold_18 : decode cX12_isTold 18 = .ok (.iload_n 1, 1) := by decide +kernel
theorem dX12_isTold_19 : decode cX12_isTold 19 = .ok (.if_icmp .ne 5, 3) := by decide +kernel
theorem dX12_isTold_22 : decode cX12_isTold 22 = .ok (.iconst 1, 1) := by decide +kernel
theorem dX12_isTold_23 : decode cX12_isTold 23 = .ok (.ireturn, 1) := by decide +kernel
theorem dX12_isTold_24 : decode cX12_isTold 24 = .ok (.iinc 2 1, 3) := by decide +kernel
theorem dX12_isTold_27 : decode cX12_isTold 27 = .ok (.goto (-25), 3) := by decide +kernel
theorem dX12_isTold_30 : decode cX12_isTold 30 = .ok (.iconst 0, 1) := by decide +kernel
theorem dX12_isTold_31 : decode cX12_isTold 31 = .ok (.ireturn, 1) := by decide +kernel
theorem dX12_look_0 : decode cX12_look 0 = .ok (.aload_n 0, 1) := by decide +kernel
theorem dX12_look_1 : decode cX12_look 1 = .ok (.iconst 0, 1) := by decide +kernel
theorem dX12_look_2 : decode cX12_look 2 = .ok (.putfield 103, 3) := by decide +kernel
theorem dX12_look_5 : decode cX12_look 5 = .ok (.aload_n 0, 1) := by decide +kernel
theorem dX12_look_6 : decode cX12_look 6 = .ok (.iload_n 1, 1) := by decide +kernel
theorem dX12_look_7 : decode cX12_look 7 = .ok (.iconst 0, 1) := by decide +kernel
theorem dX12_look_8 : decode cX12_look 8 = .ok (.iconst 1, 1) := by decide +kernel
theorem dX12_look_9 : decode cX12_look 9 = .ok (.invokestatic 137, 3) := by decide +kernel
theorem dX12_look_12 : decode cX12_look 12 = .ok (.ifCond .ne 7, 3) := by decide +kernel
theorem dX12_look_15 : decode cX12_look 15 = .ok (.iconst 1, 1) := by decide +kernel
theorem dX12_look_16 : decode cX12_look 16 = .ok (.goto 4, 3) := by decide +kernel
theorem dX12_look_19 : decode cX12_look 19 = .ok (.iconst 0, 1) := by decide +kernel
theorem dX12_look_20 : decode cX12_look 20 = .ok (.iconst 1, 1) := by decide +kernel
theorem dX12_look_21 : decode cX12_look 21 = .ok (.iconst 1, 1) := by decide +kernel
theorem dX12_look_22 : decode cX12_look 22 = .ok (.invokevirtual 182, 3) := by decide +kernel
theorem dX12_look_25 : decode cX12_look 25 = .ok (.ifCond .eq 5, 3) := by decide +kernel
theorem dX12_look_28 : decode cX12_look 28 = .ok (.iconst 0, 1) := by decide +kernel
theorem dX12_look_29 : decode cX12_look 29 = .ok (.ireturn, 1) := by decide +kernel
theorem dX12_look_30 : decode cX12_look 30 = .ok (.aload_n 0, 1) := by decide +kernel
theorem dX12_look_31 : decode cX12_look 31 = .ok (.getfield 67, 3) := by decide +kernel
theorem dX12_look_34 : decode cX12_look 34 = .ok (.invokestatic 264, 3) := by decide +kernel
theorem dX12_look_37 : decode cX12_look 37 = .ok (.istore_n 2, 1) := by decide +kernel
theorem dX12_look_38 : decode cX12_look 38 = .ok (.iconst (-1), 1) := by decide +kernel
theorem dX12_look_39 : decode cX12_look 39 = .ok (.istore_n 3, 1) := by decide +kernel
theorem dX12_look_40 : decode cX12_look 40 = .ok (.iconst (-1), 1) := by decide +kernel
theorem dX12_look_41 : decode cX12_look 41 = .ok (.istore 4, 2) := by decide +kernel
theorem dX12_look_43 : decode cX12_look 43 = .ok (.iconst 0, 1) := by decide +kernel
theorem dX12_look_44 : decode cX12_look 44 = .ok (.istore 5, 2) := by decide +kernel
theorem dX12_look_46 : decode cX12_look 46 = .ok (.iload 5, 2) := by decide +kernel
theorem dX12_look_48 : decode cX12_look 48 = .ok (.bipush 6, 2) := by decide +kernel
theorem dX12_look_50 : decode cX12_look 50 = .ok (.if_icmp .ge 36, 3) := by decide +kernel
theorem dX12_look_53 : decode cX12_look 53 = .ok (.iconst 0, 1) := by decide +kernel
theorem dX12_look_54 : decode cX12_look 54 = .ok (.istore 6, 2) := by decide +kernel
theorem dX12_look_56 : decode cX12_look 56 = .ok (.iload 6, 2) := by decide +kernel
theorem dX12_look_58 : decode cX12_look 58 = .ok (.bipush 99, 2) := by decide +kernel
theorem dX12_look_60 : decode cX12_look 60 = .ok (.if_icmp .gt 20, 3) := by decide +kernel
theorem dX12_look_63 : decode cX12_look 63 = .ok (.aload_n 0, 1) := by decide +kernel
theorem dX12_look_64 : decode cX12_look 64 = .ok (.getfield 94, 3) := by decide +kernel
theorem dX12_look_67 : decode cX12_look 67 = .ok (.iload 5, 2) := by decide +kernel
theorem dX12_look_69 : decode cX12_look 69 = .ok (.aaload, 1) := by decide +kernel
theorem dX12_look_70 : decode cX12_look 70 = .ok (.iload 6, 2) := by decide +kernel
theorem dX12_look_72 : decode cX12_look 72 = .ok (.iconst 0, 1) := by decide +kernel
theorem dX12_look_73 : decode cX12_look 73 = .ok (.iastore, 1) := by decide +kernel
theorem dX12_look_74 : decode cX12_look 74 = .ok (.iinc 6 1, 3) := by decide +kernel
theorem dX12_look_77 : decode cX12_look 77 = .ok (.goto (-21), 3) := by decide +kernel
theorem dX12_look_80 : decode cX12_look 80 = .ok (.iinc 5 1, 3) := by decide +kernel
theorem dX12_look_83 : decode cX12_look 83 = .ok (.goto (-37), 3) := by decide +kernel
theorem dX12_look_86 : decode cX12_look 86 = .ok (.iconst 0, 1) := by decide +kernel
theorem dX12_look_87 : decode cX12_look 87 = .ok (.istore 5, 2) := by decide +kernel
theorem dX12_look_89 : decode cX12_look 89 = .ok (.iload 5, 2) := by decide +kernel
theorem dX12_look_91 : decode cX12_look 91 = .ok (.iload_n 2, 1) := by decide +kernel
theorem dX12_look_92 : decode cX12_look 92 = .ok (.if_icmp .ge 70, 3) := by decide +kernel
theorem dX12_look_95 : decode cX12_look 95 = .ok (.iconst 1, 1) := by decide +kernel
theorem dX12_look_96 : decode cX12_look 96 = .ok (.istore 6, 2) := by decide +kernel
theorem dX12_look_98 : decode cX12_look 98 = .ok (.iload 6, 2) := by decide +kernel
theorem dX12_look_100 : decode cX12_look 100 = .ok (.bipush 30, 2) := by decide +kernel
theorem dX12_look_102 : decode cX12_look 102 = .ok (.if_icmp .gt 54, 3) := by decide +kernel
theorem dX12_look_105 : decode cX12_look 105 = .ok (.aload_n 0, 1) := by decide +kernel
theorem dX12_look_106 : decode cX12_look 106 = .ok (.iload 5, 2) := by decide +kernel
theorem dX12_look_108 : decode cX12_look 108 = .ok (.iload 6, 2) := by decide +kernel
theorem dX12_look_110 : decode cX12_look 110 = .ok (.invokevirtual 391, 3) := by decide +kernel
theorem dX12_look_113 : decode cX12_look 113 = .ok (.ifCond .eq 37, 3) := by decide +kernel
theorem dX12_look_116 : decode cX12_look 116 = .ok (.iconst 0, 1) := by decide +kernel
theorem dX12_look_117 : decode cX12_look 117 = .ok (.istore 7, 2) := by decide +kernel
theorem dX12_look_119 : decode cX12_look 119 = .ok (.iload 7, 2) := by decide +kernel
theorem dX12_look_121 : decode cX12_look 121 = .ok (.iload_n 2, 1) := by decide +kernel
theorem dX12_look_122 : decode cX12_look 122 = .ok (.if_icmp .ge 28, 3) := by decide +kernel
theorem dX12_look_125 : decode cX12_look 125 = .ok (.aload_n 0, 1) := by decide +kernel
theorem dX12_look_126 : decode cX12_look 126 = .ok (.getfield 94, 3) := by decide +kernel
theorem dX12_look_129 : decode cX12_look 129 = .ok (.iload 7, 2) := by decide +kernel
theorem dX12_look_131 : decode cX12_look 131 = .ok (.aaload, 1) := by decide +kernel
theorem dX12_look_132 : decode cX12_look 132 = .ok (.aload_n 0, 1) := by decide +kernel
theorem dX12_look_133 : decode cX12_look 133 = .ok (.getfield 73, 3) := by decide +kernel
theorem dX12_look_136 : decode cX12_look 136 = .ok (.iload 7, 2) := by decide +kernel
theorem dX12_look_138 : decode cX12_look 138 = .ok (.iaload, 1) := by decide +kernel
theorem dX12_look_139 : decode cX12_look 139 = .ok (.dup2, 1) := by decide +kernel
theorem dX12_look_140 : decode cX12_look 140 = .ok (.iaload, 1) := by decide +kernel
theorem dX12_look_141 : decode cX12_look 141 = .ok (.iconst 1, 1) := by decide +kernel
theorem dX12_look_142 : decode cX12_look 142 = .ok (.iadd, 1) := by decide +kernel
theorem dX12_look_143 : decode cX12_look 143 = .ok (.iastore, 1) := by decide +kernel
theorem dX12_look_144 : decode cX12_look 144 = .ok (.iinc 7 1, 3) := by decide +kernel
theorem dX12_look_147 : decode cX12_look 147 = .ok (.goto (-28), 3) := by decide +kernel
theorem dX12_look_150 : decode cX12_look 150 = .ok (.iinc 6 1, 3) := by decide +kernel
theorem dX12_look_153 : decode cX12_look 153 = .ok (.goto (-55), 3) := by decide +kernel
theorem dX12_look_156 : decode cX12_look 156 = .ok (.iinc 5 1, 3) := by decide +kernel
theorem dX12_look_159 : decode cX12_look 159 = .ok (.goto (-70), 3) := by decide +kernel
theorem dX12_look_162 : decode cX12_look 162 = .ok (.iconst 0, 1) := by decide +kernel
theorem dX12_look_163 : decode cX12_look 163 = .ok (.istore 5, 2) := by decide +kernel
theorem dX12_look_165 : decode cX12_look 165 = .ok (.iload 5, 2) := by decide +kernel
theorem dX12_look_167 : decode cX12_look 167 = .ok (.iload_n 2, 1) := by decide +kernel
theorem dX12_look_168 : decode cX12_look 168 = .ok (.if_icmp .ge 79, 3) := by decide +kernel
theorem dX12_look_171 : decode cX12_look 171 = .ok (.aload_n 0, 1) := by decide +kernel
theorem dX12_look_172 : decode cX12_look 172 = .ok (.iload 5, 2) := by decide +kernel
theorem dX12_look_174 : decode cX12_look 174 = .ok (.invokevirtual 394, 3) := by decide +kernel
theorem dX12_look_177 : decode cX12_look 177 = .ok (.ifCond .eq 6, 3) := by decide +kernel
theorem dX12_look_180 : decode cX12_look 180 = .ok (.goto 61, 3) := by decide +kernel
theorem dX12_look_183 : decode cX12_look 183 = .ok (.iconst 0, 1) := by decide +kernel
theorem dX12_look_184 : decode cX12_look 184 = .ok (.istore 6, 2) := by decide +kernel
theorem dX12_look_186 : decode cX12_look 186 = .ok (.iconst 0, 1) := by decide +kernel
theorem dX12_look_187 : decode cX12_look 187 = .ok (.istore 7, 2) := by decide +kernel
theorem dX12_look_189 : decode cX12_look 189 = .ok (.iload 7, 2) := by decide +kernel
theorem dX12_look_191 : decode cX12_look 191 = .ok (.bipush 99, 2) := by decide +kernel
theorem dX12_look_193 : decode cX12_look 193 = .ok (.if_icmp .gt 26, 3) := by decide +kernel
theorem dX12_look_196 : decode cX12_look 196 = .ok (.iload 6, 2) := by decide +kernel
theorem dX12_look_198 : decode cX12_look 198 = .ok (.aload_n 0, 1) := by decide +kernel
theorem dX12_look_199 : decode cX12_look 199 = .ok (.getfield 94, 3) := by decide +kernel
theorem dX12_look_202 : decode cX12_look 202 = .ok (.iload 5, 2) := by decide +kernel
theorem dX12_look_204 : decode cX12_look 204 = .ok (.aaload, 1) := by decide +kernel
theorem dX12_look_205 : decode cX12_look 205 = .ok (.iload 7, 2) := by decide +kernel
theorem dX12_look_207 : decode cX12_look 207 = .ok (.iaload, 1) := by decide +kernel
theorem dX12_look_208 : decode cX12_look 208 = .ok (.invokestatic 248, 3) := by decide +kernel
theorem dX12_look_211 : decode cX12_look 211 = .ok (.istore 6, 2) := by decide +kernel
theorem dX12_look_213 : decode cX12_look 213 = .ok (.iinc 7 1, 3) := by decide +kernel
theorem dX12_look_216 : decode cX12_look 216 = .ok (.goto (-27), 3) := by decide +kernel
theorem dX12_look_219 : decode cX12_look 219 = .ok (.iload_n 3, 1) := by decide +kernel
theorem dX12_look_220 : decode cX12_look 220 = .ok (.iconst (-1), 1) := by decide +kernel
theorem dX12_look_221 : decode cX12_look 221 = .ok (.if_icmp .eq 13, 3) := by decide +kernel
theorem dX12_look_224 : decode cX12_look 224 = .ok (.iload 6, 2) := by decide +kernel
theorem dX12_look_226 : decode cX12_look 226 = .ok (.iload 4, 2) := by decide +kernel
theorem dX12_look_228 : decode cX12_look 228 = .ok (.if_icmp .lt 6, 3) := by decide +kernel
theorem dX12_look_231 : decode cX12_look 231 = .ok (.goto 10, 3) := by decide +kernel
theorem dX12_look_234 : decode cX12_look 234 = .ok (.iload 5, 2) := by decide +kernel
theorem dX12_look_236 : decode cX12_look 236 = .ok (.istore_n 3, 1) := by decide +kernel
theorem dX12_look_237 : decode cX12_look 237 = .ok (.iload 6, 2) := by decide +kernel
theorem dX12_look_239 : decode cX12_look 239 = .ok (.istore 4, 2) := by decide +kernel
theorem dX12_look_241 : decode cX12_look 241 = .ok (.iinc 5 1, 3) := by decide +kernel
theorem dX12_look_244 : decode cX12_look 244 = .ok (.goto (-79), 3) := by decide +kernel
theorem dX12_look_247 : decode cX12_look 247 = .ok (.iload_n 1, 1) := by decide +kernel
theorem dX12_look_248 : decode cX12_look 248 = .ok (.ifCond .ne 7, 3) := by decide +kernel
theorem dX12_look_251 : decode cX12_look 251 = .ok (.iload_n 3, 1) := by decide +kernel
theorem dX12_look_252 : decode cX12_look 252 = .ok (.goto 5, 3) := by decide +kernel
theorem dX12_look_255 : decode cX12_look 255 = .ok (.iload 4, 2) := by decide +kernel
theorem dX12_look_257 : decode cX12_look 257 = .ok (.ireturn, 1) := by decide +kernel
theorem dX12_weds_0 : decode cX12_weds 0 = .ok (.iconst 0, 1) := by decide +kernel
theorem dX12_weds_1 : decode cX12_weds 1 = .ok (.istore_n 2, 1) := by decide +kernel
theorem dX12_weds_2 : decode cX12_weds 2 = .ok (.iconst 0, 1) := by decide +kernel
theorem dX12_weds_3 : decode cX12_weds 3 = .ok (.istore_n 3, 1) := by decide +kernel
theorem dX12_weds_4 : decode cX12_weds 4 = .ok (.iload_n 1, 1) := by decide +kernel
theorem dX12_weds_5 : decode cX12_weds 5 = .ok (.ifCond .ne 5, 3) := by decide +kernel
theorem dX12_weds_8 : decode cX12_weds 8 = .ok (.iconst 0, 1) := by decide +kernel
theorem dX12_weds_9 : decode cX12_weds 9 = .ok (.ireturn, 1) := by decide +kernel
theorem dX12_weds_10 : decode cX12_weds 10 = .ok (.iload_n 1, 1) := by decide +kernel
theorem dX12_weds_11 : decode cX12_weds 11 = .ok (.iload_n 2, 1) := by decide +kernel
theorem dX12_weds_12 : decode cX12_weds 12 = .ok (.invokestatic 366, 3) := by decide +kernel
theorem dX12_weds_15 : decode cX12_weds 15 = .ok (.ifCond .ne 9, 3) := by decide +kernel
theorem dX12_weds_18 : decode cX12_weds 18 = .ok (.iinc 2 1, 3) := by decide +kernel
theorem dX12_weds_21 : decode cX12_weds 21 = .ok (.goto (-11), 3) := by decide +kernel
theorem dX12_weds_24 : decode cX12_weds 24 = .ok (.iload_n 1, 1) := by decide +kernel
theorem dX12_weds_25 : decode cX12_weds 25 = .ok (.iconst 1, 1) := by decide +kernel
theorem dX12_weds_26 : decode cX12_weds 26 = .ok (.iload_n 2, 1) := by decide +kernel
theorem dX12_weds_27 : decode cX12_weds 27 = .ok (.ishl, 1) := by decide +kernel
theorem dX12_weds_28 : decode cX12_weds 28 = .ok (.iconst (-1), 1) := by decide +kernel
theorem dX12_weds_29 : decode cX12_weds 29 = .ok (.ixor, 1) := by decide +kernel
theorem dX12_weds_30 : decode cX12_weds 30 = .ok (.iand, 1) := by decide +kernel
theorem dX12_weds_31 : decode cX12_weds 31 = .ok (.istore 4, 2) := by decide +kernel
theorem dX12_weds_33 : decode cX12_weds 33 = .ok (.aload_n 0, 1) := by decide +kernel
theorem dX12_weds_34 : decode cX12_weds 34 = .ok (.iload 4, 2) := by decide +kernel
theorem dX12_weds_36 : decode cX12_weds 36 = .ok (.invokevirtual 397, 3) := by decide +kernel
theorem dX12_weds_39 : decode cX12_weds 39 = .ok (.istore_n 3, 1) := by decide +kernel
theorem dX12_weds_40 : decode cX12_weds 40 = .ok (.iload_n 2, 1) := by decide +kernel
theorem dX12_weds_41 : decode cX12_weds 41 = .ok (.iconst 1, 1) := by decide +kernel
theorem dX12_weds_42 : decode cX12_weds 42 = .ok (.iadd, 1) := by decide +kernel
theorem dX12_weds_43 : decode cX12_weds 43 = .ok (.istore 5, 2) := by decide +kernel
theorem dX12_weds_45 : decode cX12_weds 45 = .ok (.iload 5, 2) := by decide +kernel
theorem dX12_weds_47 : decode cX12_weds 47 = .ok (.aload_n 0, 1) := by decide +kernel
theorem dX12_weds_48 : decode cX12_weds 48 = .ok (.getfield 23, 3) := by decide +kernel
theorem dX12_weds_51 : decode cX12_weds 51 = .ok (.iconst 0, 1) := by decide +kernel
theorem dX12_weds_52 : decode cX12_weds 52 = .ok (.iaload, 1) := by decide +kernel
theorem dX12_weds_53 : decode cX12_weds 53 = .ok (.if_icmp .ge 70, 3) := by decide +kernel
theorem dX12_weds_56 : decode cX12_weds 56 = .ok (.iload 4, 2) := by decide +kernel
theorem dX12_weds_58 : decode cX12_weds 58 = .ok (.iload 5, 2) := by decide +kernel
theorem dX12_weds_60 : decode cX12_weds 60 = .ok (.invokestatic 366, 3) := by decide +kernel
theorem dX12_weds_63 : decode cX12_weds 63 = .ok (.ifCond .eq 54, 3) := by decide +kernel
theorem dX12_weds_66 : decode cX12_weds 66 = .ok (.aload_n 0, 1) := by decide +kernel
theorem dX12_weds_67 : decode cX12_weds 67 = .ok (.iconst 2, 1) := by decide +kernel
theorem dX12_weds_68 : decode cX12_weds 68 = .ok (.iload_n 2, 1) := by decide +kernel
theorem dX12_weds_69 : decode cX12_weds 69 = .ok (.imul, 1) := by decide +kernel
theorem dX12_weds_70 : decode cX12_weds 70 = .ok (.iconst 2, 1) := by decide +kernel
theorem dX12_weds_71 : decode cX12_weds 71 = .ok (.iload 5, 2) := by decide +kernel
theorem dX12_weds_73 : decode cX12_weds 73 = .ok (.imul, 1) := by decide +kernel
theorem dX12_weds_74 : decode cX12_weds 74 = .ok (.invokevirtual 369, 3) := by decide +kernel
theorem dX12_weds_77 : decode cX12_weds 77 = .ok (.ifCond .ne 20, 3) := by decide +kernel
theorem dX12_weds_80 : decode cX12_weds 80 = .ok (.aload_n 0, 1) := by decide +kernel
theorem dX12_weds_81 : decode cX12_weds 81 = .ok (.iconst 2, 1) := by decide +kernel
theorem dX12_weds_82 : decode cX12_weds 82 = .ok (.iload 5, 2) := by decide +kernel
theorem dX12_weds_84 : decode cX12_weds 84 = .ok (.imul, 1) := by decide +kernel
theorem dX12_weds_85 : decode cX12_weds 85 = .ok (.iconst 2, 1) := by decide +kernel
theorem dX12_weds_86 : decode cX12_weds 86 = .ok (.iload_n 2, 1) := by decide +kernel
theorem dX12_weds_87 : decode cX12_weds 87 = .ok (.imul, 1) := by decide +kernel
theorem dX12_weds_88 : decode cX12_weds 88 = .ok (.invokevirtual 369, 3) := by decide +kernel
theorem dX12_weds_91 : decode cX12_weds 91 = .ok (.ifCond .ne 6, 3) := by decide +kernel
theorem dX12_weds_94 : decode cX12_weds 94 = .ok (.goto 23, 3) := by decide +kernel
theorem dX12_weds_97 : decode cX12_weds 97 = .ok (.iload_n 3, 1) := by decide +kernel
theorem dX12_weds_98 : decode cX12_weds 98 = .ok (.iconst 1, 1) := by decide +kernel
theorem dX12_weds_99 : decode cX12_weds 99 = .ok (.aload_n 0, 1) := by decide +kernel
theorem dX12_weds_100 : decode cX12_weds 100 = .ok (.iload 4, 2) := by decide +kernel
theorem dX12_weds_102 : decode cX12_weds 102 = .ok (.iconst 1, 1) := by decide +kernel
theorem dX12_weds_103 : decode cX12_weds 103 = .ok (.iload 5, 2) := by decide +kernel
theorem dX12_weds_105 : decode cX12_weds 105 = .ok (.ishl, 1) := by decide +kernel
theorem dX12_weds_106 : decode cX12_weds 106 = .ok (.iconst (-1), 1) := by decide +kernel
theorem dX12_weds_107 : decode cX12_weds 107 = .ok (.ixor, 1) := by decide +kernel
theorem dX12_weds_108 : decode cX12_weds 108 = .ok (.iand, 1) := by decide +kernel
theorem dX12_weds_109 : decode cX12_weds 109 = .ok (.invokevirtual 397, 3) := by decide +kernel
theorem dX12_weds_112 : decode cX12_weds 112 = .ok (.iadd, 1) := by decide +kernel
theorem dX12_weds_113 : decode cX12_weds 113 = .ok (.invokestatic 248, 3) := by decide +kernel
theorem dX12_weds_116 : decode cX12_weds 116 = .ok (.istore_n 3, 1) := by decide +kernel
theorem dX12_weds_117 : decode cX12_weds 117 = .ok (.iinc 5 1, 3) := by decide +kernel
theorem dX12_weds_120 : decode cX12_weds 120 = .ok (.goto (-75), 3) := by decide +kernel
theorem dX12_weds_123 : decode cX12_weds 123 = .ok (.iload_n 3, 1) := by decide +kernel
theorem dX12_weds_124 : decode cX12_weds 124 = .ok (.ireturn, 1) := by decide +kernel
theorem dX12_wed_0 : decode cX12_wed 0 = .ok (.aload_n 0, 1) := by decide +kernel
theorem dX12_wed_1 : decode cX12_wed 1 = .ok (.iconst 0, 1) := by decide +kernel
theorem dX12_wed_2 : decode cX12_wed 2 = .ok (.putfield 103, 3) := by decide +kernel
theorem dX12_wed_5 : decode cX12_wed 5 = .ok (.aload_n 0, 1) := by decide +kernel
theorem dX12_wed_6 : decode cX12_wed 6 = .ok (.iconst 1, 1) := by decide +kernel
theorem dX12_wed_7 : decode cX12_wed 7 = .ok (.aload_n 0, 1) := by decide +kernel
theorem dX12_wed_8 : decode cX12_wed 8 = .ok (.getfield 23, 3) := by decide +kernel
theorem dX12_wed_11 : decode cX12_wed 11 = .ok (.iconst 0, 1) := by decide +kernel
theorem dX12_wed_12 : decode cX12_wed 12 = .ok (.iaload, 1) := by decide +kernel
theorem dX12_wed_13 : decode cX12_wed 13 = .ok (.ishl, 1) := by decide +kernel
theorem dX12_wed_14 : decode cX12_wed 14 = .ok (.iconst 1, 1) := by decide +kernel
theorem dX12_wed_15 : decode cX12_wed 15 = .ok (.isub, 1) := by decide +kernel
theorem dX12_wed_16 : decode cX12_wed 16 = .ok (.invokevirtual 397, 3) := by decide +kernel
theorem dX12_wed_19 : decode cX12_wed 19 = .ok (.ireturn, 1) := by decide +kernel
theorem dX12_partOf_0 : decode cX12_partOf 0 = .ok (.lload_n 2, 1) := by decide +kernel
theorem dX12_partOf_1 : decode cX12_partOf 1 = .ok (.lstore 5, 2) := by decide +kernel
theorem dX12_partOf_3 : decode cX12_partOf 3 = .ok (.lload_n 0, 1) := by decide +kernel
theorem dX12_partOf_4 : decode cX12_partOf 4 = .ok (.lstore 7, 2) := by decide +kernel
theorem dX12_partOf_6 : decode cX12_partOf 6 = .ok (.lload 7, 2) := by decide +kernel
theorem dX12_partOf_8 : decode cX12_partOf 8 = .ok (.lconst 0, 1) := by decide +kernel
theorem dX12_partOf_9 : decode cX12_partOf 9 = .ok (.lcmp, 1) := by decide +kernel
theorem dX12_partOf_10 : decode cX12_partOf 10 = .ok (.ifCond .eq 21, 3) := by decide +kernel
theorem dX12_partOf_13 : decode cX12_partOf 13 = .ok (.lload 5, 2) := by decide +kernel
theorem dX12_partOf_15 : decode cX12_partOf 15 = .ok (.lload 7, 2) := by decide +kernel
theorem dX12_partOf_17 : decode cX12_partOf 17 = .ok (.lrem, 1) := by decide +kernel
theorem dX12_partOf_18 : decode cX12_partOf 18 = .ok (.lstore 9, 2) := by decide +kernel
theorem dX12_partOf_20 : decode cX12_partOf 20 = .ok (.lload 7, 2) := by decide +kernel
theorem dX12_partOf_22 : decode cX12_partOf 22 = .ok (.lstore 5, 2) := by decide +kernel
theorem dX12_partOf_24 : decode cX12_partOf 24 = .ok (.lload 9, 2) := by decide +kernel
theorem dX12_partOf_26 : decode cX12_partOf 26 = .ok (.lstore 7, 2) := by decide +kernel
theorem dX12_partOf_28 : decode cX12_partOf 28 = .ok (.goto (-22), 3) := by decide +kernel
theorem dX12_partOf_31 : decode cX12_partOf 31 = .ok (.iload 4, 2) := by decide +kernel
theorem dX12_partOf_33 : decode cX12_partOf 33 = .ok (.ifCond .ne 10, 3) := by decide +kernel
theorem dX12_partOf_36 : decode cX12_partOf 36 = .ok (.lload_n 0, 1) := by decide +kernel
theorem dX12_partOf_37 : decode cX12_partOf 37 = .ok (.lload 5, 2) := by decide +kernel
theorem dX12_partOf_39 : decode cX12_partOf 39 = .ok (.ldiv, 1) := by decide +kernel
theorem dX12_partOf_40 : decode cX12_partOf 40 = .ok (.goto 7, 3) := by decide +kernel
theorem dX12_partOf_43 : decode cX12_partOf 43 = .ok (.lload_n 2, 1) := by decide +kernel
theorem dX12_partOf_44 : decode cX12_partOf 44 = .ok (.lload 5, 2) := by decide +kernel
theorem dX12_partOf_46 : decode cX12_partOf 46 = .ok (.ldiv, 1) := by decide +kernel
theorem dX12_partOf_47 : decode cX12_partOf 47 = .ok (.lreturn, 1) := by decide +kernel
theorem dX12_sure_0 : decode cX12_sure 0 = .ok (.aload_n 0, 1) := by decide +kernel
theorem dX12_sure_1 : decode cX12_sure 1 = .ok (.iconst 0, 1) := by decide +kernel
theorem dX12_sure_2 : decode cX12_sure 2 = .ok (.putfield 103, 3) := by decide +kernel
theorem dX12_sure_5 : decode cX12_sure 5 = .ok (.aload_n 0, 1) := by decide +kernel
theorem dX12_sure_6 : decode cX12_sure 6 = .ok (.aload_n 0, 1) := by decide +kernel
theorem dX12_sure_7 : decode cX12_sure 7 = .ok (.iload_n 1, 1) := by decide +kernel
theorem dX12_sure_8 : decode cX12_sure 8 = .ok (.invokevirtual 360, 3) := by decide +kernel
theorem dX12_sure_11 : decode cX12_sure 11 = .ok (.ifCond .ne 7, 3) := by decide +kernel
theorem dX12_sure_14 : decode cX12_sure 14 = .ok (.iconst 1, 1) := by decide +kernel
theorem dX12_sure_15 : decode cX12_sure 15 = .ok (.goto 4, 3) := by decide +kernel
theorem dX12_sure_18 : decode cX12_sure 18 = .ok (.iconst 0, 1) := by decide +kernel
theorem dX12_sure_19 : decode cX12_sure 19 = .ok (.iconst 1, 1) := by decide +kernel
theorem dX12_sure_20 : decode cX12_sure 20 = .ok (.iconst 0, 1) := by decide +kernel
theorem dX12_sure_21 : decode cX12_sure 21 = .ok (.invokevirtual 182, 3) := by decide +kernel
theorem dX12_sure_24 : decode cX12_sure 24 = .ok (.ifCond .ne 36, 3) := by decide +kernel
theorem dX12_sure_27 : decode cX12_sure 27 = .ok (.aload_n 0, 1) := by decide +kernel
theorem dX12_sure_28 : decode cX12_sure 28 = .ok (.iload_n 2, 1) := by decide +kernel
theorem dX12_sure_29 : decode cX12_sure 29 = .ok (.iconst 0, 1) := by decide +kernel
theorem dX12_sure_30 : decode cX12_sure 30 = .ok (.bipush 16, 2) := by decide +kernel
theorem dX12_sure_32 : decode cX12_sure 32 = .ok (.invokestatic 137, 3) := by decide +kernel
theorem dX12_sure_35 : decode cX12_sure 35 = .ok (.ifCond .eq 12, 3) := by decide +kernel
theorem dX12_sure_38 : decode cX12_sure 38 = .ok (.iload_n 3, 1) := by decide +kernel
theorem dX12_sure_39 : decode cX12_sure 39 = .ok (.iconst 0, 1) := by decide +kernel
theorem dX12_sure_40 : decode cX12_sure 40 = .ok (.iconst 1, 1) := by decide +kernel
theorem dX12_sure_41 : decode cX12_sure 41 = .ok (.invokestatic 137, 3) := by decide +kernel
theorem dX12_sure_44 : decode cX12_sure 44 = .ok (.ifCond .ne 7, 3) := by decide +kernel
theorem dX12_sure_47 : decode cX12_sure 47 = .ok (.iconst 1, 1) := by decide +kernel
theorem dX12_sure_48 : decode cX12_sure 48 = .ok (.goto 4, 3) := by decide +kernel
theorem dX12_sure_51 : decode cX12_sure 51 = .ok (.iconst 0, 1) := by decide +kernel
theorem dX12_sure_52 : decode cX12_sure 52 = .ok (.iconst 2, 1) := by decide +kernel
theorem dX12_sure_53 : decode cX12_sure 53 = .ok (.iconst 1, 1) := by decide +kernel
theorem dX12_sure_54 : decode cX12_sure 54 = .ok (.invokevirtual 182, 3) := by decide +kernel
theorem dX12_sure_57 : decode cX12_sure 57 = .ok (.ifCond .eq 5, 3) := by decide +kernel
