theorem dX0_init_0 : decode cX0_init 0 = .ok (.aload_n 0, 1) := by decide +kernel
theorem dX0_init_1 : decode cX0_init 1 = .ok (.invokespecial 3, 3) := by decide +kernel
theorem dX0_init_4 : decode cX0_init 4 = .ok (.aload_n 0, 1) := by decide +kernel
theorem dX0_init_5 : decode cX0_init 5 = .ok (.bipush 6, 2) := by decide +kernel
theorem dX0_init_7 : decode cX0_init 7 = .ok (.newarray .int, 2) := by decide +kernel
theorem dX0_init_9 : decode cX0_init 9 = .ok (.putfield 9, 3) := by decide +kernel
theorem dX0_init_12 : decode cX0_init 12 = .ok (.aload_n 0, 1) := by decide +kernel
theorem dX0_init_13 : decode cX0_init 13 = .ok (.sipush 600, 3) := by decide +kernel
theorem dX0_init_16 : decode cX0_init 16 = .ok (.newarray .int, 2) := by decide +kernel
theorem dX0_init_18 : decode cX0_init 18 = .ok (.putfield 15, 3) := by decide +kernel
theorem dX0_init_21 : decode cX0_init 21 = .ok (.aload_n 0, 1) := by decide +kernel
theorem dX0_init_22 : decode cX0_init 22 = .ok (.invokevirtual 18, 3) := by decide +kernel
theorem dX0_init_25 : decode cX0_init 25 = .ok (.return_, 1) := by decide +kernel
theorem dX0_clear_0 : decode cX0_clear 0 = .ok (.aload_n 0, 1) := by decide +kernel
theorem dX0_clear_1 : decode cX0_clear 1 = .ok (.iconst 0, 1) := by decide +kernel
theorem dX0_clear_2 : decode cX0_clear 2 = .ok (.putfield 21, 3) := by decide +kernel
theorem dX0_clear_5 : decode cX0_clear 5 = .ok (.aload_n 0, 1) := by decide +kernel
theorem dX0_clear_6 : decode cX0_clear 6 = .ok (.getfield 9, 3) := by decide +kernel
theorem dX0_clear_9 : decode cX0_clear 9 = .ok (.iconst (-1), 1) := by decide +kernel
theorem dX0_clear_10 : decode cX0_clear 10 = .ok (.invokestatic 25, 3) := by decide +kernel
theorem dX0_clear_13 : decode cX0_clear 13 = .ok (.return_, 1) := by decide +kernel
theorem dX0_become_0 : decode cX0_become 0 = .ok (.aload_n 0, 1) := by decide +kernel
theorem dX0_become_1 : decode cX0_become 1 = .ok (.aload_n 1, 1) := by decide +kernel
theorem dX0_become_2 : decode cX0_become 2 = .ok (.getfield 21, 3) := by decide +kernel
theorem dX0_become_5 : decode cX0_become 5 = .ok (.putfield 21, 3) := by decide +kernel
theorem dX0_become_8 : decode cX0_become 8 = .ok (.aload_n 1, 1) := by decide +kernel
theorem dX0_become_9 : decode cX0_become 9 = .ok (.getfield 9, 3) := by decide +kernel
theorem dX0_become_12 : decode cX0_become 12 = .ok (.iconst 0, 1) := by decide +kernel
theorem dX0_become_13 : decode cX0_become 13 = .ok (.aload_n 0, 1) := by decide +kernel
theorem dX0_become_14 : decode cX0_become 14 = .ok (.getfield 9, 3) := by decide +kernel
theorem dX0_become_17 : decode cX0_become 17 = .ok (.iconst 0, 1) := by decide +kernel
theorem dX0_become_18 : decode cX0_become 18 = .ok (.bipush 6, 2) := by decide +kernel
theorem dX0_become_20 : decode cX0_become 20 = .ok (.invokestatic 31, 3) := by decide +kernel
theorem dX0_become_23 : decode cX0_become 23 = .ok (.return_, 1) := by decide +kernel
theorem dX0_readFrom_0 : decode cX0_readFrom 0 = .ok (.aload_n 0, 1) := by decide +kernel
theorem dX0_readFrom_1 : decode cX0_readFrom 1 = .ok (.invokevirtual 18, 3) := by decide +kernel
theorem dX0_readFrom_4 : decode cX0_readFrom 4 = .ok (.iconst 0, 1) := by decide +kernel
theorem dX0_readFrom_5 : decode cX0_readFrom 5 = .ok (.istore_n 2, 1) := by decide +kernel
theorem dX0_readFrom_6 : decode cX0_readFrom 6 = .ok (.iload_n 2, 1) := by decide +kernel
theorem dX0_readFrom_7 : decode cX0_readFrom 7 = .ok (.bipush 6, 2) := by decide +kernel
theorem dX0_readFrom_9 : decode cX0_readFrom 9 = .ok (.if_icmp .gt 29, 3) := by decide +kernel
theorem dX0_readFrom_12 : decode cX0_readFrom 12 = .ok (.aload_n 1, 1) := by decide +kernel
theorem dX0_readFrom_13 : decode cX0_readFrom 13 = .ok (.invokevirtual 37, 3) := by decide +kernel
theorem dX0_readFrom_16 : decode cX0_readFrom 16 = .ok (.iconst (-1), 1) := by decide +kernel
theorem dX0_readFrom_17 : decode cX0_readFrom 17 = .ok (.if_icmp .ne 5, 3) := by decide +kernel
theorem dX0_readFrom_20 : decode cX0_readFrom 20 = .ok (.iconst 1, 1) := by decide +kernel
theorem dX0_readFrom_21 : decode cX0_readFrom 21 = .ok (.ireturn, 1) := by decide +kernel
theorem dX0_readFrom_22 : decode cX0_readFrom 22 = .ok (.aload_n 0, 1) := by decide +kernel
theorem dX0_readFrom_23 : decode cX0_readFrom 23 = .ok (.aload_n 1, 1) := by decide +kernel
theorem dX0_readFrom_24 : decode cX0_readFrom 24 = .ok (.invokevirtual 43, 3) := by decide +kernel
theorem dX0_readFrom_27 : decode cX0_readFrom 27 = .ok (.ifCond .ne 5, 3) := by decide +kernel
theorem dX0_readFrom_30 : decode cX0_readFrom 30 = .ok (.iconst 0, 1) := by decide +kernel
theorem dX0_readFrom_31 : decode cX0_readFrom 31 = .ok (.ireturn, 1) := by decide +kernel
theorem dX0_readFrom_32 : decode cX0_readFrom 32 = .ok (.iinc 2 1, 3) := by decide +kernel
theorem dX0_readFrom_35 : decode cX0_readFrom 35 = .ok (.goto (-29), 3) := by decide +kernel
theorem dX0_readFrom_38 : decode cX0_readFrom 38 = .ok (.iconst 0, 1) := by decide +kernel
theorem dX0_readFrom_39 : decode cX0_readFrom 39 = .ok (.ireturn, 1) := by decide +kernel
theorem dX0_readLine_0 : decode cX0_readLine 0 = .ok (.aload_n 1, 1) := by decide +kernel
theorem dX0_readLine_1 : decode cX0_readLine 1 = .ok (.iconst 0, 1) := by decide +kernel
theorem dX0_readLine_2 : decode cX0_readLine 2 = .ok (.iconst 5, 1) := by decide +kernel
theorem dX0_readLine_3 : decode cX0_readLine 3 = .ok (.invokevirtual 47, 3) := by decide +kernel
theorem dX0_readLine_6 : decode cX0_readLine 6 = .ok (.ifCond .ne 5, 3) := by decide +kernel
theorem dX0_readLine_9 : decode cX0_readLine 9 = .ok (.iconst 0, 1) := by decide +kernel
theorem dX0_readLine_10 : decode cX0_readLine 10 = .ok (.ireturn, 1) := by decide +kernel
theorem dX0_readLine_11 : decode cX0_readLine 11 = .ok (.aload_n 1, 1) := by decide +kernel
theorem dX0_readLine_12 : decode cX0_readLine 12 = .ok (.getfield 51, 3) := by decide +kernel
theorem dX0_readLine_15 : decode cX0_readLine 15 = .ok (.istore_n 2, 1) := by decide +kernel
theorem dX0_readLine_16 : decode cX0_readLine 16 = .ok (.aload_n 0, 1) := by decide +kernel
theorem dX0_readLine_17 : decode cX0_readLine 17 = .ok (.getfield 9, 3) := by decide +kernel
theorem dX0_readLine_20 : decode cX0_readLine 20 = .ok (.iload_n 2, 1) := by decide +kernel
theorem dX0_readLine_21 : decode cX0_readLine 21 = .ok (.invokestatic 54, 3) := by decide +kernel
theorem dX0_readLine_24 : decode cX0_readLine 24 = .ok (.iconst (-1), 1) := by decide +kernel
theorem dX0_readLine_25 : decode cX0_readLine 25 = .ok (.if_icmp .eq 8, 3) := by decide +kernel
theorem dX0_readLine_28 : decode cX0_readLine 28 = .ok (.aload_n 1, 1) := by decide +kernel
theorem dX0_readLine_29 : decode cX0_readLine 29 = .ok (.invokevirtual 58, 3) := by decide +kernel
theorem dX0_readLine_32 : decode cX0_readLine 32 = .ok (.ireturn, 1) := by decide +kernel
theorem dX0_readLine_33 : decode cX0_readLine 33 = .ok (.aload_n 1, 1) := by decide +kernel
theorem dX0_readLine_34 : decode cX0_readLine 34 = .ok (.iconst 0, 1) := by decide +kernel
theorem dX0_readLine_35 : decode cX0_readLine 35 = .ok (.bipush 99, 2) := by decide +kernel
theorem dX0_readLine_37 : decode cX0_readLine 37 = .ok (.invokevirtual 47, 3) := by decide +kernel
theorem dX0_readLine_40 : decode cX0_readLine 40 = .ok (.ifCond .ne 5, 3) := by decide +kernel
theorem dX0_readLine_43 : decode cX0_readLine 43 = .ok (.iconst 0, 1) := by decide +kernel
theorem dX0_readLine_44 : decode cX0_readLine 44 = .ok (.ireturn, 1) := by decide +kernel
theorem dX0_readLine_45 : decode cX0_readLine 45 = .ok (.aload_n 0, 1) := by decide +kernel
theorem dX0_readLine_46 : decode cX0_readLine 46 = .ok (.getfield 9, 3) := by decide +kernel
theorem dX0_readLine_49 : decode cX0_readLine 49 = .ok (.iload_n 2, 1) := by decide +kernel
theorem dX0_readLine_50 : decode cX0_readLine 50 = .ok (.aload_n 1, 1) := by decide +kernel
theorem dX0_readLine_51 : decode cX0_readLine 51 = .ok (.getfield 51, 3) := by decide +kernel
theorem dX0_readLine_54 : decode cX0_readLine 54 = .ok (.invokestatic 62, 3) := by decide +kernel
theorem dX0_readLine_57 : decode cX0_readLine 57 = .ok (.aload_n 0, 1) := by decide +kernel
theorem dX0_readLine_58 : decode cX0_readLine 58 = .ok (.dup, 1) := by decide +kernel
theorem dX0_readLine_59 : decode cX0_readLine 59 = .ok (.getfield 21, 3) := by decide +kernel
theorem dX0_readLine_62 : decode cX0_readLine 62 = .ok (.iconst 1, 1) := by decide +kernel
theorem dX0_readLine_63 : decode cX0_readLine 63 = .ok (.iadd, 1) := by decide +kernel
theorem dX0_readLine_64 : decode cX0_readLine 64 = .ok (.putfield 21, 3) := by decide +kernel
theorem dX0_readLine_67 : decode cX0_readLine 67 = .ok (.aload_n 1, 1) := by decide +kernel
theorem dX0_readLine_68 : decode cX0_readLine 68 = .ok (.bipush 59, 2) := by decide +kernel
theorem dX0_readLine_70 : decode cX0_readLine 70 = .ok (.invokevirtual 66, 3) := by decide +kernel
theorem dX0_readLine_73 : decode cX0_readLine 73 = .ok (.ireturn, 1) := by decide +kernel
theorem dX0_findLeaks_0 : decode cX0_findLeaks 0 = .ok (.aload_n 0, 1) := by decide +kernel
theorem dX0_findLeaks_1 : decode cX0_findLeaks 1 = .ok (.iconst 0, 1) := by decide +kernel
theorem dX0_findLeaks_2 : decode cX0_findLeaks 2 = .ok (.putfield 70, 3) := by decide +kernel
theorem dX0_findLeaks_5 : decode cX0_findLeaks 5 = .ok (.aload_n 0, 1) := by decide +kernel
theorem dX0_findLeaks_6 : decode cX0_findLeaks 6 = .ok (.iconst (-1), 1) := by decide +kernel
theorem dX0_findLeaks_7 : decode cX0_findLeaks 7 = .ok (.putfield 73, 3) := by decide +kernel
theorem dX0_findLeaks_10 : decode cX0_findLeaks 10 = .ok (.aload_n 0, 1) := by decide +kernel
theorem dX0_findLeaks_11 : decode cX0_findLeaks 11 = .ok (.getfield 15, 3) := by decide +kernel
theorem dX0_findLeaks_14 : decode cX0_findLeaks 14 = .ok (.iconst 0, 1) := by decide +kernel
theorem dX0_findLeaks_15 : decode cX0_findLeaks 15 = .ok (.invokestatic 25, 3) := by decide +kernel
theorem dX0_findLeaks_18 : decode cX0_findLeaks 18 = .ok (.iconst 0, 1) := by decide +kernel
theorem dX0_findLeaks_19 : decode cX0_findLeaks 19 = .ok (.istore_n 3, 1) := by decide +kernel
theorem dX0_findLeaks_20 : decode cX0_findLeaks 20 = .ok (.iload_n 3, 1) := by decide +kernel
theorem dX0_findLeaks_21 : decode cX0_findLeaks 21 = .ok (.aload_n 1, 1) := by decide +kernel
theorem dX0_findLeaks_22 : decode cX0_findLeaks 22 = .ok (.getfield 76, 3) := by decide +kernel
theorem dX0_findLeaks_25 : decode cX0_findLeaks 25 = .ok (.if_icmp .ge 96, 3) := by decide +kernel
theorem dX0_findLeaks_28 : decode cX0_findLeaks 28 = .ok (.aload_n 2, 1) := by decide +kernel
theorem dX0_findLeaks_29 : decode cX0_findLeaks 29 = .ok (.iload_n 3, 1) := by decide +kernel
theorem dX0_findLeaks_30 : decode cX0_findLeaks 30 = .ok (.putfield 81, 3) := by decide +kernel
theorem dX0_findLeaks_33 : decode cX0_findLeaks 33 = .ok (.iconst 1, 1) := by decide +kernel
theorem dX0_findLeaks_34 : decode cX0_findLeaks 34 = .ok (.istore 4, 2) := by decide +kernel
theorem dX0_findLeaks_36 : decode cX0_findLeaks 36 = .ok (.iload 4, 2) := by decide +kernel
theorem dX0_findLeaks_38 : decode cX0_findLeaks 38 = .ok (.bipush 30, 2) := by decide +kernel
theorem dX0_findLeaks_40 : decode cX0_findLeaks 40 = .ok (.if_icmp .gt 75, 3) := by decide +kernel
theorem dX0_findLeaks_43 : decode cX0_findLeaks 43 = .ok (.aload_n 2, 1) := by decide +kernel
theorem dX0_findLeaks_44 : decode cX0_findLeaks 44 = .ok (.iload 4, 2) := by decide +kernel
theorem dX0_findLeaks_46 : decode cX0_findLeaks 46 = .ok (.putfield 86, 3) := by decide +kernel
theorem dX0_findLeaks_49 : decode cX0_findLeaks 49 = .ok (.aload_n 2, 1) := by decide +kernel
theorem dX0_findLeaks_50 : decode cX0_findLeaks 50 = .ok (.aload_n 1, 1) := by decide +kernel
theorem dX0_findLeaks_51 : decode cX0_findLeaks 51 = .ok (.aload_n 1, 1) := by decide +kernel
theorem dX0_findLeaks_52 : decode cX0_findLeaks 52 = .ok (.getfield 89, 3) := by decide +kernel
theorem dX0_findLeaks_55 : decode cX0_findLeaks 55 = .ok (.invokevirtual 92, 3) := by decide +kernel
theorem dX0_findLeaks_58 : decode cX0_findLeaks 58 = .ok (.pop, 1) := by decide +kernel
theorem dX0_findLeaks_59 : decode cX0_findLeaks 59 = .ok (.aload_n 0, 1) := by decide +kernel
theorem dX0_findLeaks_60 : decode cX0_findLeaks 60 = .ok (.aload_n 1, 1) := by decide +kernel
theorem dX0_findLeaks_61 : decode cX0_findLeaks 61 = .ok (.aload_n 2, 1) := by decide +kernel
theorem dX0_findLeaks_62 : decode cX0_findLeaks 62 = .ok (.invokevirtual 96, 3) := by decide +kernel
theorem dX0_findLeaks_65 : decode cX0_findLeaks 65 = .ok (.ifCond .eq 44, 3) := by decide +kernel
theorem dX0_findLeaks_68 : decode cX0_findLeaks 68 = .ok (.aload_n 0, 1) := by decide +kernel
theorem dX0_findLeaks_69 : decode cX0_findLeaks 69 = .ok (.aload_n 0, 1) := by decide +kernel
theorem dX0_findLeaks_70 : decode cX0_findLeaks 70 = .ok (.getfield 70, 3) := by decide +kernel
theorem dX0_findLeaks_73 : decode cX0_findLeaks 73 = .ok (.ifCond .ne 13, 3) := by decide +kernel
theorem dX0_findLeaks_76 : decode cX0_findLeaks 76 = .ok (.bipush 100, 2) := by decide +kernel
theorem dX0_findLeaks_78 : decode cX0_findLeaks 78 = .ok (.iload_n 3, 1) := by decide +kernel
theorem dX0_findLeaks_79 : decode cX0_findLeaks 79 = .ok (.imul, 1) := by decide +kernel
theorem dX0_findLeaks_80 : decode cX0_findLeaks 80 = .ok (.iload 4, 2) := by decide +kernel
theorem dX0_findLeaks_82 : decode cX0_findLeaks 82 = .ok (.iadd, 1) := by decide +kernel
theorem dX0_findLeaks_83 : decode cX0_findLeaks 83 = .ok (.goto 7, 3) := by decide +kernel
theorem dX0_findLeaks_86 : decode cX0_findLeaks 86 = .ok (.aload_n 0, 1) := by decide +kernel
theorem dX0_findLeaks_87 : decode cX0_findLeaks 87 = .ok (.getfield 73, 3) := by decide +kernel
theorem dX0_findLeaks_90 : decode cX0_findLeaks 90 = .ok (.putfield 73, 3) := by decide +kernel
theorem dX0_findLeaks_93 : decode cX0_findLeaks 93 = .ok (.aload_n 0, 1) := by decide +kernel
theorem dX0_findLeaks_94 : decode cX0_findLeaks 94 = .ok (.dup, 1) := by decide +kernel
theorem dX0_findLeaks_95 : decode cX0_findLeaks 95 = .ok (.getfield 70, 3) := by decide +kernel
theorem dX0_findLeaks_98 : decode cX0_findLeaks 98 = .ok (.iconst 1, 1) := by decide +kernel
theorem dX0_findLeaks_99 : decode cX0_findLeaks 99 = .ok (.iadd, 1) := by decide +kernel
theorem dX0_findLeaks_100 : decode cX0_findLeaks 100 = .ok (.putfield 70, 3) := by decide +kernel
theorem dX0_findLeaks_103 : decode cX0_findLeaks 103 = .ok (.aload_n 0, 1) := by decide +kernel
theorem dX0_findLeaks_104 : decode cX0_findLeaks 104 = .ok (.aload_n 1, 1) := by decide +kernel
theorem dX0_findLeaks_105 : decode cX0_findLeaks 105 = .ok (.aload_n 2, 1) := by decide +kernel
theorem dX0_findLeaks_106 : decode cX0_findLeaks 106 = .ok (.invokevirtual 100, 3) := by decide +kernel
theorem dX0_findLeaks_109 : decode cX0_findLeaks 109 = .ok (.iinc 4 1, 3) := by decide +kernel
theorem dX0_findLeaks_112 : decode cX0_findLeaks 112 = .ok (.goto (-76), 3) := by decide +kernel
theorem dX0_findLeaks_115 : decode cX0_findLeaks 115 = .ok (.iinc 3 1, 3) := by decide +kernel
theorem dX0_findLeaks_118 : decode cX0_findLeaks 118 = .ok (.goto (-98), 3) := by decide +kernel
theorem dX0_findLeaks_121 : decode cX0_findLeaks 121 = .ok (.aload_n 2, 1) := by decide +kernel
theorem dX0_findLeaks_122 : decode cX0_findLeaks 122 = .ok (.iconst (-1), 1) := by decide +kernel
theorem dX0_findLeaks_123 : decode cX0_findLeaks 123 = .ok (.putfield 81, 3) := by decide +kernel
theorem dX0_findLeaks_126 : decode cX0_findLeaks 126 = .ok (.return_, 1) := by decide +kernel
theorem dX0_isRight_0 : decode cX0_isRight 0 = .ok (.iconst 0, 1) := by decide +kernel
theorem dX0_isRight_1 : decode cX0_isRight 1 = .ok (.istore_n 3, 1) := by decide +kernel
theorem dX0_isRight_2 : decode cX0_isRight 2 = .ok (.iload_n 3, 1) := by decide +kernel
theorem dX0_isRight_3 : decode cX0_isRight 3 = .ok (.bipush 6, 2) := by decide +kernel
theorem dX0_isRight_5 : decode cX0_isRight 5 = .ok (.if_icmp .ge 44, 3) := by decide +kernel
theorem dX0_isRight_8 : decode cX0_isRight 8 = .ok (.aload_n 0, 1) := by decide +kernel
theorem dX0_isRight_9 : decode cX0_isRight 9 = .ok (.getfield 9, 3) := by decide +kernel
theorem dX0_isRight_12 : decode cX0_isRight 12 = .ok (.iload_n 3, 1) := by decide +kernel
theorem dX0_isRight_13 : decode cX0_isRight 13 = .ok (.iaload, 1) := by decide +kernel
theorem dX0_isRight_14 : decode cX0_isRight 14 = .ok (.iconst (-1), 1) := by decide +kernel
theorem dX0_isRight_15 : decode cX0_isRight 15 = .ok (.if_icmp .eq 28, 3) := by decide +kernel
theorem dX0_isRight_18 : decode cX0_isRight 18 = .ok (.iload_n 3, 1) := by decide +kernel
theorem dX0_isRight_19 : decode cX0_isRight 19 = .ok (.aload_n 1, 1) := by decide +kernel
theorem dX0_isRight_20 : decode cX0_isRight 20 = .ok (.getfield 76, 3) := by decide +kernel
theorem dX0_isRight_23 : decode cX0_isRight 23 = .ok (.if_icmp .ge 18, 3) := by decide +kernel
theorem dX0_isRight_26 : decode cX0_isRight 26 = .ok (.aload_n 2, 1) := by decide +kernel
theorem dX0_isRight_27 : decode cX0_isRight 27 = .ok (.getfield 104, 3) := by decide +kernel
theorem dX0_isRight_30 : decode cX0_isRight 30 = .ok (.iload_n 3, 1) := by decide +kernel
theorem dX0_isRight_31 : decode cX0_isRight 31 = .ok (.iaload, 1) := by decide +kernel
theorem dX0_isRight_32 : decode cX0_isRight 32 = .ok (.aload_n 0, 1) := by decide +kernel
theorem dX0_isRight_33 : decode cX0_isRight 33 = .ok (.getfield 9, 3) := by decide +kernel
theorem dX0_isRight_36 : decode cX0_isRight 36 = .ok (.iload_n 3, 1) := by decide +kernel
theorem dX0_isRight_37 : decode cX0_isRight 37 = .ok (.iaload, 1) := by decide +kernel
theorem dX0_isRight_38 : decode cX0_isRight 38 = .ok (.if_icmp .eq 5, 3) := by decide +kernel
theorem dX0_isRight_41 : decode cX0_isRight 41 = .ok (.iconst 0, 1) := by decide +kernel
theorem dX0_isRight_42 : decode cX0_isRight 42 = .ok (.ireturn, 1) := by decide +kernel
theorem dX0_isRight_43 : decode cX0_isRight 43 = .ok (.iinc 3 1, 3) := by decide +kernel
theorem dX0_isRight_46 : decode cX0_isRight 46 = .ok (.goto (-44), 3) := by decide +kernel
theorem dX0_isRight_49 : decode cX0_isRight 49 = .ok (.iconst 1, 1) := by decide +kernel
theorem dX0_isRight_50 : decode cX0_isRight 50 = .ok (.ireturn, 1) := by decide +kernel
theorem dX0_tallyUp_0 : decode cX0_tallyUp 0 = .ok (.iconst 0, 1) := by decide +kernel
theorem dX0_tallyUp_1 : decode cX0_tallyUp 1 = .ok (.istore_n 3, 1) := by decide +kernel
theorem dX0_tallyUp_2 : decode cX0_tallyUp 2 = .ok (.iload_n 3, 1) := by decide +kernel
theorem dX0_tallyUp_3 : decode cX0_tallyUp 3 = .ok (.aload_n 1, 1) := by decide +kernel
theorem dX0_tallyUp_4 : decode cX0_tallyUp 4 = .ok (.getfield 76, 3) := by decide +kernel
theorem dX0_tallyUp_7 : decode cX0_tallyUp 7 = .ok (.if_icmp .ge 48, 3) := by decide +kernel
theorem dX0_tallyUp_10 : decode cX0_tallyUp 10 = .ok (.iload_n 3, 1) := by decide +kernel
theorem dX0_tallyUp_11 : decode cX0_tallyUp 11 = .ok (.bipush 6, 2) := by decide +kernel
theorem dX0_tallyUp_13 : decode cX0_tallyUp 13 = .ok (.if_icmp .ge 42, 3) := by decide +kernel
theorem dX0_tallyUp_16 : decode cX0_tallyUp 16 = .ok (.iload_n 3, 1) := by decide +kernel
theorem dX0_tallyUp_17 : decode cX0_tallyUp 17 = .ok (.bipush 100, 2) := by decide +kernel
theorem dX0_tallyUp_19 : decode cX0_tallyUp 19 = .ok (.imul, 1) := by decide +kernel
theorem dX0_tallyUp_20 : decode cX0_tallyUp 20 = .ok (.aload_n 2, 1) := by decide +kernel
theorem dX0_tallyUp_21 : decode cX0_tallyUp 21 = .ok (.getfield 104, 3) := by decide +kernel
theorem dX0_tallyUp_24 : decode cX0_tallyUp 24 = .ok (.iload_n 3, 1) := by decide +kernel
theorem dX0_tallyUp_25 : decode cX0_tallyUp 25 = .ok (.iaload, 1) := by decide +kernel
theorem dX0_tallyUp_26 : decode cX0_tallyUp 26 = .ok (.iadd, 1) := by decide +kernel
theorem dX0_tallyUp_27 : decode cX0_tallyUp 27 = .ok (.istore 4, 2) := by decide +kernel
theorem dX0_tallyUp_29 : decode cX0_tallyUp 29 = .ok (.aload_n 0, 1) := by decide +kernel
theorem dX0_tallyUp_30 : decode cX0_tallyUp 30 = .ok (.getfield 15, 3) := by decide +kernel
theorem dX0_tallyUp_33 : decode cX0_tallyUp 33 = .ok (.iload 4, 2) := by decide +kernel
theorem dX0_tallyUp_35 : decode cX0_tallyUp 35 = .ok (.aload_n 0, 1) := by decide +kernel
theorem dX0_tallyUp_36 : decode cX0_tallyUp 36 = .ok (.getfield 15, 3) := by decide +kernel
theorem dX0_tallyUp_39 : decode cX0_tallyUp 39 = .ok (.iload 4, 2) := by decide +kernel
theorem dX0_tallyUp_41 : decode cX0_tallyUp 41 = .ok (.invokestatic 54, 3) := by decide +kernel
theorem dX0_tallyUp_44 : decode cX0_tallyUp 44 = .ok (.iconst 1, 1) := by decide +kernel
theorem dX0_tallyUp_45 : decode cX0_tallyUp 45 = .ok (.iadd, 1) := by decide +kernel
theorem dX0_tallyUp_46 : decode cX0_tallyUp 46 = .ok (.invokestatic 62, 3) := by decide +kernel
theorem dX0_tallyUp_49 : decode cX0_tallyUp 49 = .ok (.iinc 3 1, 3) := by decide +kernel
theorem dX0_tallyUp_52 : decode cX0_tallyUp 52 = .ok (.goto (-50), 3) := by decide +kernel
theorem dX0_tallyUp_55 : decode cX0_tallyUp 55 = .ok (.return_, 1) := by decide +kernel
theorem dX0_findLook_0 : decode cX0_findLook 0 = .ok (.aload_n 0, 1) := by decide +kernel
theorem dX0_findLook_1 : decode cX0_findLook 1 = .ok (.aload_n 1, 1) := by decide +kernel
theorem dX0_findLook_2 : decode cX0_findLook 2 = .ok (.aload_n 2, 1) := by decide +kernel
theorem dX0_findLook_3 : decode cX0_findLook 3 = .ok (.invokevirtual 107, 3) := by decide +kernel
theorem dX0_findLook_6 : decode cX0_findLook 6 = .ok (.aload_n 0, 1) := by decide +kernel
theorem dX0_findLook_7 : decode cX0_findLook 7 = .ok (.iconst (-1), 1) := by decide +kernel
theorem dX0_findLook_8 : decode cX0_findLook 8 = .ok (.putfield 110, 3) := by decide +kernel
theorem dX0_findLook_11 : decode cX0_findLook 11 = .ok (.aload_n 0, 1) := by decide +kernel
theorem dX0_findLook_12 : decode cX0_findLook 12 = .ok (.iconst (-1), 1) := by decide +kernel
theorem dX0_findLook_13 : decode cX0_findLook 13 = .ok (.putfield 113, 3) := by decide +kernel
theorem dX0_findLook_16 : decode cX0_findLook 16 = .ok (.iconst 0, 1) := by decide +kernel
theorem dX0_findLook_17 : decode cX0_findLook 17 = .ok (.istore_n 3, 1) := by decide +kernel
theorem dX0_findLook_18 : decode cX0_findLook 18 = .ok (.iload_n 3, 1) := by decide +kernel
theorem dX0_findLook_19 : decode cX0_findLook 19 = .ok (.aload_n 1, 1) := by decide +kernel
theorem dX0_findLook_20 : decode cX0_findLook 20 = .ok (.getfield 76, 3) := by decide +kernel
theorem dX0_findLook_23 : decode cX0_findLook 23 = .ok (.if_icmp .ge 59, 3) := by decide +kernel
theorem dX0_findLook_26 : decode cX0_findLook 26 = .ok (.iload_n 3, 1) := by decide +kernel
theorem dX0_findLook_27 : decode cX0_findLook 27 = .ok (.bipush 6, 2) := by decide +kernel
theorem dX0_findLook_29 : decode cX0_findLook 29 = .ok (.if_icmp .ge 53, 3) := by decide +kernel
theorem dX0_findLook_32 : decode cX0_findLook 32 = .ok (.aload_n 0, 1) := by decide +kernel
theorem dX0_findLook_33 : decode cX0_findLook 33 = .ok (.getfield 9, 3) := by decide +kernel
theorem dX0_findLook_36 : decode cX0_findLook 36 = .ok (.iload_n 3, 1) := by decide +kernel
theorem dX0_findLook_37 : decode cX0_findLook 37 = .ok (.iaload, 1) := by decide +kernel
theorem dX0_findLook_38 : decode cX0_findLook 38 = .ok (.iconst (-1), 1) := by decide +kernel
theorem dX0_findLook_39 : decode cX0_findLook 39 = .ok (.if_icmp .ne 37, 3) := by decide +kernel
theorem dX0_findLook_42 : decode cX0_findLook 42 = .ok (.aload_n 0, 1) := by decide +kernel
theorem dX0_findLook_43 : decode cX0_findLook 43 = .ok (.getfield 110, 3) := by decide +kernel
theorem dX0_findLook_46 : decode cX0_findLook 46 = .ok (.iconst (-1), 1) := by decide +kernel
theorem dX0_findLook_47 : decode cX0_findLook 47 = .ok (.if_icmp .eq 15, 3) := by decide +kernel
theorem dX0_findLook_50 : decode cX0_findLook 50 = .ok (.aload_n 0, 1) := by decide +kernel
theorem dX0_findLook_51 : decode cX0_findLook 51 = .ok (.iload_n 3, 1) := by decide +kernel
theorem dX0_findLook_52 : decode cX0_findLook 52 = .ok (.invokevirtual 116, 3) := by decide +kernel
theorem dX0_findLook_55 : decode cX0_findLook 55 = .ok (.aload_n 0, 1) := by decide +kernel
theorem dX0_findLook_56 : decode cX0_findLook 56 = .ok (.getfield 113, 3) := by decide +kernel
theorem dX0_findLook_59 : decode cX0_findLook 59 = .ok (.if_icmp .ge 17, 3) := by decide +kernel
theorem dX0_findLook_62 : decode cX0_findLook 62 = .ok (.aload_n 0, 1) := by decide +kernel
theorem dX0_findLook_63 : decode cX0_findLook 63 = .ok (.iload_n 3, 1) := by decide +kernel
theorem dX0_findLook_64 : decode cX0_findLook 64 = .ok (.putfield 110, 3) := by decide +kernel
theorem dX0_findLook_67 : decode cX0_findLook 67 = .ok (.aload_n 0, 1) := by decide +kernel
theorem dX0_findLook_68 : decode cX0_findLook 68 = .ok (.aload_n 0, 1) := by decide +kernel
theorem dX0_findLook_69 : decode cX0_findLook 69 = .ok (.iload_n 3, 1) := by decide +kernel
theorem dX0_findLook_70 : decode cX0_findLook 70 = .ok (.invokevirtual 116, 3) := by decide +kernel
theorem dX0_findLook_73 : decode cX0_findLook 73 = .ok (.putfield 113, 3) := by decide +kernel
theorem dX0_findLook_76 : decode cX0_findLook 76 = .ok (.iinc 3 1, 3) := by decide +kernel
theorem dX0_findLook_79 : decode cX0_findLook 79 = .ok (.goto (-61), 3) := by decide +kernel
theorem dX0_findLook_82 : decode cX0_findLook 82 = .ok (.return_, 1) := by decide +kernel
theorem dX0_worstAt_0 : decode cX0_worstAt 0 = .ok (.iconst 0, 1) := by decide +kernel
theorem dX0_worstAt_1 : decode cX0_worstAt 1 = .ok (.istore_n 2, 1) := by decide +kernel
theorem dX0_worstAt_2 : decode cX0_worstAt 2 = .ok (.iconst 0, 1) := by decide +kernel
theorem dX0_worstAt_3 : decode cX0_worstAt 3 = .ok (.istore_n 3, 1) := by decide +kernel
theorem dX0_worstAt_4 : decode cX0_worstAt 4 = .ok (.iload_n 3, 1) := by decide +kernel
theorem dX0_worstAt_5 : decode cX0_worstAt 5 = .ok (.bipush 100, 2) := by decide +kernel
theorem dX0_worstAt_7 : decode cX0_worstAt 7 = .ok (.if_icmp .ge 27, 3) := by decide +kernel
theorem dX0_worstAt_10 : decode cX0_worstAt 10 = .ok (.iload_n 2, 1) := by decide +kernel
theorem dX0_worstAt_11 : decode cX0_worstAt 11 = .ok (.aload_n 0, 1) := by decide +kernel
theorem dX0_worstAt_12 : decode cX0_worstAt 12 = .ok (.getfield 15, 3) := by decide +kernel
theorem dX0_worstAt_15 : decode cX0_worstAt 15 = .ok (.iload_n 1, 1) := by decide +kernel
theorem dX0_worstAt_16 : decode cX0_worstAt 16 = .ok (.bipush 100, 2) := by decide +kernel
theorem dX0_worstAt_18 : decode cX0_worstAt 18 = .ok (.imul, 1) := by decide +kernel
theorem dX0_worstAt_19 : decode cX0_worstAt 19 = .ok (.iload_n 3, 1) := by decide +kernel
theorem dX0_worstAt_20 : decode cX0_worstAt 20 = .ok (.iadd, 1) := by decide +kernel
theorem dX0_worstAt_21 : decode cX0_worstAt 21 = .ok (.invokestatic 54, 3) := by decide +kernel
theorem dX0_worstAt_24 : decode cX0_worstAt 24 = .ok (.invokestatic 120, 3) := by decide +kernel
theorem dX0_worstAt_27 : decode cX0_worstAt 27 = .ok (.istore_n 2, 1) := by decide +kernel
theorem dX0_worstAt_28 : decode cX0_worstAt 28 = .ok (.iinc 3 1, 3) := by decide +kernel
theorem dX0_worstAt_31 : decode cX0_worstAt 31 = .ok (.goto (-27), 3) := by decide +kernel
theorem dX0_worstAt_34 : decode cX0_worstAt 34 = .ok (.iload_n 2, 1) := by decide +kernel
theorem dX0_worstAt_35 : decode cX0_worstAt 35 = .ok (.ireturn, 1) := by decide +kernel
theorem dX1_init_0 : decode cX1_init 0 = .ok (.aload_n 0, 1) := by decide +kernel
theorem dX1_init_1 : decode cX1_init 1 = .ok (.invokespecial 3, 3) := by decide +kernel
theorem dX1_init_4 : decode cX1_init 4 = .ok (.aload_n 0, 1) := by decide +kernel
theorem dX1_init_5 : decode cX1_init 5 = .ok (.bipush 6, 2) := by decide +kernel
theorem dX1_init_7 : decode cX1_init 7 = .ok (.newarray .int, 2) := by decide +kernel
theorem dX1_init_9 : decode cX1_init 9 = .ok (.putfield 9, 3) := by decide +kernel
theorem dX1_init_12 : decode cX1_init 12 = .ok (.aload_n 0, 1) := by decide +kernel
theorem dX1_init_13 : decode cX1_init 13 = .ok (.bipush 6, 2) := by decide +kernel
theorem dX1_init_15 : decode cX1_init 15 = .ok (.newarray .int, 2) := by decide +kernel
theorem dX1_init_17 : decode cX1_init 17 = .ok (.putfield 15, 3) := by decide +kernel
theorem dX1_init_20 : decode cX1_init 20 = .ok (.aload_n 0, 1) := by decide +kernel
theorem dX1_init_21 : decode cX1_init 21 = .ok (.bipush 6, 2) := by decide +kernel
theorem dX1_init_23 : decode cX1_init 23 = .ok (.newarray .int, 2) := by decide +kernel
theorem dX1_init_25 : decode cX1_init 25 = .ok (.putfield 18, 3) := by decide +kernel
theorem dX1_init_28 : decode cX1_init 28 = .ok (.aload_n 0, 1) := by decide +kernel
theorem dX1_init_29 : decode cX1_init 29 = .ok (.bipush 6, 2) := by decide +kernel
theorem dX1_init_31 : decode cX1_init 31 = .ok (.newarray .int, 2) := by decide +kernel
theorem dX1_init_33 : decode cX1_init 33 = .ok (.putfield 21, 3) := by decide +kernel
theorem dX1_init_36 : decode cX1_init 36 = .ok (.aload_n 0, 1) := by decide +kernel
theorem dX1_init_37 : decode cX1_init 37 = .ok (.iconst 4, 1) := by decide +kernel
theorem dX1_init_38 : decode cX1_init 38 = .ok (.newarray .int, 2) := by decide +kernel
theorem dX1_init_40 : decode cX1_init 40 = .ok (.putfield 24, 3) := by decide +kernel
theorem dX1_init_43 : decode cX1_init 43 = .ok (.aload_n 0, 1) := by decide +kernel
theorem dX1_init_44 : decode cX1_init 44 = .ok (.iconst 4, 1) := by decide +kernel
theorem dX1_init_45 : decode cX1_init 45 = .ok (.newarray .int, 2) := by decide +kernel
theorem dX1_init_47 : decode cX1_init 47 = .ok (.putfield 27, 3) := by decide +kernel
theorem dX1_init_50 : decode cX1_init 50 = .ok (.aload_n 0, 1) := by decide +kernel
theorem dX1_init_51 : decode cX1_init 51 = .ok (.iconst 5, 1) := by decide +kernel
theorem dX1_init_52 : decode cX1_init 52 = .ok (.newarray .int, 2) := by decide +kernel
theorem dX1_init_54 : decode cX1_init 54 = .ok (.putfield 30, 3) := by decide +kernel
theorem dX1_init_57 : decode cX1_init 57 = .ok (.aload_n 0, 1) := by decide +kernel
theorem dX1_init_58 : decode cX1_init 58 = .ok (.iconst 5, 1) := by decide +kernel
theorem dX1_init_59 : decode cX1_init 59 = .ok (.newarray .int, 2) := by decide +kernel
theorem dX1_init_61 : decode cX1_init 61 = .ok (.putfield 33, 3) := by decide +kernel
theorem dX1_init_64 : decode cX1_init 64 = .ok (.aload_n 0, 1) := by decide +kernel
theorem dX1_init_65 : decode cX1_init 65 = .ok (.bipush 10, 2) := by decide +kernel
theorem dX1_init_67 : decode cX1_init 67 = .ok (.newarray .int, 2) := by decide +kernel
theorem dX1_init_69 : decode cX1_init 69 = .ok (.putfield 36, 3) := by decide +kernel
theorem dX1_init_72 : decode cX1_init 72 = .ok (.aload_n 0, 1) := by decide +kernel
theorem dX1_init_73 : decode cX1_init 73 = .ok (.invokevirtual 39, 3) := by decide +kernel
theorem dX1_init_76 : decode cX1_init 76 = .ok (.return_, 1) := by decide +kernel
theorem dX1_clear_0 : decode cX1_clear 0 = .ok (.aload_n 0, 1) := by decide +kernel
theorem dX1_clear_1 : decode cX1_clear 1 = .ok (.iconst 0, 1) := by decide +kernel
theorem dX1_clear_2 : decode cX1_clear 2 = .ok (.putfield 42, 3) := by decide +kernel
theorem dX1_clear_5 : decode cX1_clear 5 = .ok (.aload_n 0, 1) := by decide +kernel
theorem dX1_clear_6 : decode cX1_clear 6 = .ok (.iconst 0, 1) := by decide +kernel
theorem dX1_clear_7 : decode cX1_clear 7 = .ok (.putfield 46, 3) := by decide +kernel
theorem dX1_clear_10 : decode cX1_clear 10 = .ok (.aload_n 0, 1) := by decide +kernel
theorem dX1_clear_11 : decode cX1_clear 11 = .ok (.iconst 0, 1) := by decide +kernel
theorem dX1_clear_12 : decode cX1_clear 12 = .ok (.putfield 49, 3) := by decide +kernel
theorem dX1_clear_15 : decode cX1_clear 15 = .ok (.aload_n 0, 1) := by decide +kernel
theorem dX1_clear_16 : decode cX1_clear 16 = .ok (.bipush 60, 2) := by decide +kernel
theorem dX1_clear_18 : decode cX1_clear 18 = .ok (.putfield 52, 3) := by decide +kernel
theorem dX1_clear_21 : decode cX1_clear 21 = .ok (.iconst 0, 1) := by decide +kernel
theorem dX1_clear_22 : decode cX1_clear 22 = .ok (.istore_n 1, 1) := by decide +kernel
theorem dX1_clear_23 : decode cX1_clear 23 = .ok (.iload_n 1, 1) := by decide +kernel
theorem dX1_clear_24 : decode cX1_clear 24 = .ok (.bipush 10, 2) := by decide +kernel
theorem dX1_clear_26 : decode cX1_clear 26 = .ok (.if_icmp .ge 18, 3) := by decide +kernel
theorem dX1_clear_29 : decode cX1_clear 29 = .ok (.aload_n 0, 1) := by decide +kernel
theorem dX1_clear_30 : decode cX1_clear 30 = .ok (.getfield 36, 3) := by decide +kernel
theorem dX1_clear_33 : decode cX1_clear 33 = .ok (.iload_n 1, 1) := by decide +kernel
theorem dX1_clear_34 : decode cX1_clear 34 = .ok (.iconst 1, 1) := by decide +kernel
theorem dX1_clear_35 : decode cX1_clear 35 = .ok (.iload_n 1, 1) := by decide +kernel
theorem dX1_clear_36 : decode cX1_clear 36 = .ok (.ishl, 1) := by decide +kernel
theorem dX1_clear_37 : decode cX1_clear 37 = .ok (.iastore, 1) := by decide +kernel
theorem dX1_clear_38 : decode cX1_clear 38 = .ok (.iinc 1 1, 3) := by decide +kernel
theorem dX1_clear_41 : decode cX1_clear 41 = .ok (.goto (-18), 3) := by decide +kernel
theorem dX1_clear_44 : decode cX1_clear 44 = .ok (.return_, 1) := by decide +kernel
theorem dX1_become_0 : decode cX1_become 0 = .ok (.aload_n 0, 1) := by decide +kernel
theorem dX1_become_1 : decode cX1_become 1 = .ok (.aload_n 1, 1) := by decide +kernel
theorem dX1_become_2 : decode cX1_become 2 = .ok (.getfield 42, 3) := by decide +kernel
theorem dX1_become_5 : decode cX1_become 5 = .ok (.putfield 42, 3) := by decide +kernel
theorem dX1_become_8 : decode cX1_become 8 = .ok (.aload_n 0, 1) := by decide +kernel
theorem dX1_become_9 : decode cX1_become 9 = .ok (.aload_n 1, 1) := by decide +kernel
theorem dX1_become_10 : decode cX1_become 10 = .ok (.getfield 46, 3) := by decide +kernel
theorem dX1_become_13 : decode cX1_become 13 = .ok (.putfield 46, 3) := by decide +kernel
theorem dX1_become_16 : decode cX1_become 16 = .ok (.aload_n 0, 1) := by decide +kernel
theorem dX1_become_17 : decode cX1_become 17 = .ok (.aload_n 1, 1) := by decide +kernel
theorem dX1_become_18 : decode cX1_become 18 = .ok (.getfield 49, 3) := by decide +kernel
theorem dX1_become_21 : decode cX1_become 21 = .ok (.putfield 49, 3) := by decide +kernel
theorem dX1_become_24 : decode cX1_become 24 = .ok (.aload_n 0, 1) := by decide +kernel
theorem dX1_become_25 : decode cX1_become 25 = .ok (.aload_n 1, 1) := by decide +kernel
theorem dX1_become_26 : decode cX1_become 26 = .ok (.getfield 52, 3) := by decide +kernel
theorem dX1_become_29 : decode cX1_become 29 = .ok (.putfield 52, 3) := by decide +kernel
theorem dX1_become_32 : decode cX1_become 32 = .ok (.aload_n 1, 1) := by decide +kernel
theorem dX1_become_33 : decode cX1_become 33 = .ok (.getfield 9, 3) := by decide +kernel
theorem dX1_become_36 : decode cX1_become 36 = .ok (.iconst 0, 1) := by decide +kernel
theorem dX1_become_37 : decode cX1_become 37 = .ok (.aload_n 0, 1) := by decide +kernel
theorem dX1_become_38 : decode cX1_become 38 = .ok (.getfield 9, 3) := by decide +kernel
theorem dX1_become_41 : decode cX1_become 41 = .ok (.iconst 0, 1) := by decide +kernel
theorem dX1_become_42 : decode cX1_become 42 = .ok (.bipush 6, 2) := by decide +kernel
theorem dX1_become_44 : decode cX1_become 44 = .ok (.invokestatic 55, 3) := by decide +kernel
theorem dX1_become_47 : decode cX1_become 47 = .ok (.aload_n 1, 1) := by decide +kernel
theorem dX1_become_48 : decode cX1_become 48 = .ok (.getfield 15, 3) := by decide +kernel
theorem dX1_become_51 : decode cX1_become 51 = .ok (.iconst 0, 1) := by decide +kernel
theorem dX1_become_52 : decode cX1_become 52 = .ok (.aload_n 0, 1) := by decide +kernel
theorem dX1_become_53 : decode cX1_become 53 = .ok (.getfield 15, 3) := by decide +kernel
theorem dX1_become_56 : decode cX1_become 56 = .ok (.iconst 0, 1) := by decide +kernel
theorem dX1_become_57 : decode cX1_become 57 = .ok (.bipush 6, 2) := by decide +kernel
theorem dX1_become_59 : decode cX1_become 59 = .ok (.invokestatic 55, 3) := by decide +kernel
theorem dX1_become_62 : decode cX1_become 62 = .ok (.aload_n 1, 1) := by decide +kernel
theorem dX1_become_63 : decode cX1_become 63 = .ok (.getfield 18, 3) := by decide +kernel
theorem dX1_become_66 : decode cX1_become 66 = .ok (.iconst 0, 1) := by decide +kernel
theorem dX1_become_67 : decode cX1_become 67 = .ok (.aload_n 0, 1) := by decide +kernel
theorem dX1_become_68 : decode cX1_become 68 = .ok (.getfield 18, 3) := by decide +kernel
theorem dX1_become_71 : decode cX1_become 71 = .ok (.iconst 0, 1) := by decide +kernel
theorem dX1_become_72 : decode cX1_become 72 = .ok (.bipush 6, 2) := by decide +kernel
theorem dX1_become_74 : decode cX1_become 74 = .ok (.invokestatic 55, 3) := by decide +kernel
theorem dX1_become_77 : decode cX1_become 77 = .ok (.aload_n 1, 1) := by decide +kernel
theorem dX1_become_78 : decode cX1_become 78 = .ok (.getfield 21, 3) := by decide +kernel
theorem dX1_become_81 : decode cX1_become 81 = .ok (.iconst 0, 1) := by decide +kernel
theorem dX1_become_82 : decode cX1_become 82 = .ok (.aload_n 0, 1) := by decide +kernel
theorem dX1_become_83 : decode cX1_become 83 = .ok (.getfield 21, 3) := by decide +kernel
theorem dX1_become_86 : decode cX1_become 86 = .ok (.iconst 0, 1) := by decide +kernel
theorem dX1_become_87 : decode cX1_become 87 = .ok (.bipush 6, 2) := by decide +kernel
theorem dX1_become_89 : decode cX1_become 89 = .ok (.invokestatic 55, 3) := by decide +kernel
theorem dX1_become_92 : decode cX1_become 92 = .ok (.aload_n 1, 1) := by decide +kernel
theorem dX1_become_93 : decode cX1_become 93 = .ok (.getfield 24, 3) := by decide +kernel
theorem dX1_become_96 : decode cX1_become 96 = .ok (.iconst 0, 1) := by decide +kernel
theorem dX1_become_97 : decode cX1_become 97 = .ok (.aload_n 0, 1) := by decide +kernel
theorem dX1_become_98 : decode cX1_become 98 = .ok (.getfield 24, 3) := by decide +kernel
theorem dX1_become_101 : decode cX1_become 101 = .ok (.iconst 0, 1) := by decide +kernel
theorem dX1_become_102 : decode cX1_become 102 = .ok (.iconst 4, 1) := by decide +kernel
theorem dX1_become_103 : decode cX1_become 103 = .ok (.invokestatic 55, 3) := by decide +kernel
theorem dX1_become_106 : decode cX1_become 106 = .ok (.aload_n 1, 1) := by decide +kernel
theorem dX1_become_107 : decode cX1_become 107 = .ok (.getfield 27, 3) := by decide +kernel
theorem dX1_become_110 : decode cX1_become 110 = .ok (.iconst 0, 1) := by decide +kernel
theorem dX1_become_111 : decode cX1_become 111 = .ok (.aload_n 0, 1) := by decide +kernel
theorem dX1_become_112 : decode cX1_become 112 = .ok (.getfield 27, 3) := by decide +kernel
theorem dX1_become_115 : decode cX1_become 115 = .ok (.iconst 0, 1) := by decide +kernel
theorem dX1_become_116 : decode cX1_become 116 = .ok (.iconst 4, 1) := by decide +kernel
theorem dX1_become_117 : decode cX1_become 117 = .ok (.invokestatic 55, 3) := by decide +kernel
theorem dX1_become_120 : decode cX1_become 120 = .ok (.aload_n 1, 1) := by decide +kernel
theorem dX1_become_121 : decode cX1_become 121 = .ok (.getfield 30, 3) := by decide +kernel
theorem dX1_become_124 : decode cX1_become 124 = .ok (.iconst 0, 1) := by decide +kernel
theorem dX1_become_125 : decode cX1_become 125 = .ok (.aload_n 0, 1) := by decide +kernel
theorem dX1_become_126 : decode cX1_become 126 = .ok (.getfield 30, 3) := by decide +kernel
theorem dX1_become_129 : decode cX1_become 129 = .ok (.iconst 0, 1) := by decide +kernel
theorem dX1_become_130 : decode cX1_become 130 = .ok (.iconst 5, 1) := by decide +kernel
theorem dX1_become_131 : decode cX1_become 131 = .ok (.invokestatic 55, 3) := by decide +kernel
theorem dX1_become_134 : decode cX1_become 134 = .ok (.aload_n 1, 1) := by decide +kernel
theorem dX1_become_135 : decode cX1_become 135 = .ok (.getfield 33, 3) := by decide +kernel
theorem dX1_become_138 : decode cX1_become 138 = .ok (.iconst 0, 1) := by decide +kernel
theorem dX1_become_139 : decode cX1_become 139 = .ok (.aload_n 0, 1) := by decide +kernel
theorem dX1_become_140 : decode cX1_become 140 = .ok (.getfield 33, 3) := by decide +kernel
theorem dX1_become_143 : decode cX1_become 143 = .ok (.iconst 0, 1) := by decide +kernel
theorem dX1_become_144 : decode cX1_become 144 = .ok (.iconst 5, 1) := by decide +kernel
theorem dX1_become_145 : decode cX1_become 145 = .ok (.invokestatic 55, 3) := by decide +kernel
theorem dX1_become_148 : decode cX1_become 148 = .ok (.aload_n 1, 1) := by decide +kernel
theorem dX1_become_149 : decode cX1_become 149 = .ok (.getfield 36, 3) := by decide +kernel
theorem dX1_become_152 : decode cX1_become 152 = .ok (.iconst 0, 1) := by decide +kernel
theorem dX1_become_153 : decode cX1_become 153 = .ok (.aload_n 0, 1) := by decide +kernel
theorem dX1_become_154 : decode cX1_become 154 = .ok (.getfield 36, 3) := by decide +kernel
theorem dX1_become_157 : decode cX1_become 157 = .ok (.iconst 0, 1) := by decide +kernel
theorem dX1_become_158 : decode cX1_become 158 = .ok (.bipush 10, 2) := by decide +kernel
theorem dX1_become_160 : decode cX1_become 160 = .ok (.invokestatic 55, 3) := by decide +kernel
theorem dX1_become_163 : decode cX1_become 163 = .ok (.return_, 1) := by decide +kernel
theorem dX1_readFrom_0 : decode cX1_readFrom 0 = .ok (.aload_n 0, 1) := by decide +kernel
theorem dX1_readFrom_1 : decode cX1_readFrom 1 = .ok (.invokevirtual 39, 3) := by decide +kernel
theorem dX1_readFrom_4 : decode cX1_readFrom 4 = .ok (.iconst 0, 1) := by decide +kernel
theorem dX1_readFrom_5 : decode cX1_readFrom 5 = .ok (.istore_n 2, 1) := by decide +kernel
theorem dX1_readFrom_6 : decode cX1_readFrom 6 = .ok (.iload_n 2, 1) := by decide +kernel
theorem dX1_readFrom_7 : decode cX1_readFrom 7 = .ok (.bipush 60, 2) := by decide +kernel
theorem dX1_readFrom_9 : decode cX1_readFrom 9 = .ok (.if_icmp .gt 71, 3) := by decide +kernel
theorem dX1_readFrom_12 : decode cX1_readFrom 12 = .ok (.aload_n 1, 1) := by decide +kernel
theorem dX1_readFrom_13 : decode cX1_readFrom 13 = .ok (.invokevirtual 61, 3) := by decide +kernel
theorem dX1_readFrom_16 : decode cX1_readFrom 16 = .ok (.iconst (-1), 1) := by decide +kernel
theorem dX1_readFrom_17 : decode cX1_readFrom 17 = .ok (.if_icmp .ne 5, 3) := by decide +kernel
theorem dX1_readFrom_20 : decode cX1_readFrom 20 = .ok (.iconst 1, 1) := by decide +kernel
theorem dX1_readFrom_21 : decode cX1_readFrom 21 = .ok (.ireturn, 1) := by decide +kernel
theorem dX1_readFrom_22 : decode cX1_readFrom 22 = .ok (.aload_n 1, 1) := by decide +kernel
theorem dX1_readFrom_23 : decode cX1_readFrom 23 = .ok (.ldc 67, 2) := by decide +kernel
theorem dX1_readFrom_25 : decode cX1_readFrom 25 = .ok (.invokevirtual 69, 3) := by decide +kernel
theorem dX1_readFrom_28 : decode cX1_readFrom 28 = .ok (.istore_n 3, 1) := by decide +kernel
theorem dX1_readFrom_29 : decode cX1_readFrom 29 = .ok (.iload_n 3, 1) := by decide +kernel
theorem dX1_readFrom_30 : decode cX1_readFrom 30 = .ok (.ifCond .ge 5, 3) := by decide +kernel
theorem dX1_readFrom_33 : decode cX1_readFrom 33 = .ok (.iconst 0, 1) := by decide +kernel
theorem dX1_readFrom_34 : decode cX1_readFrom 34 = .ok (.ireturn, 1) := by decide +kernel
theorem dX1_readFrom_35 : decode cX1_readFrom 35 = .ok (.iload_n 2, 1) := by decide +kernel
theorem dX1_readFrom_36 : decode cX1_readFrom 36 = .ok (.bipush 60, 2) := by decide +kernel
theorem dX1_readFrom_38 : decode cX1_readFrom 38 = .ok (.if_icmp .eq 11, 3) := by decide +kernel
theorem dX1_readFrom_41 : decode cX1_readFrom 41 = .ok (.aload_n 0, 1) := by decide +kernel
theorem dX1_readFrom_42 : decode cX1_readFrom 42 = .ok (.iload_n 3, 1) := by decide +kernel
theorem dX1_readFrom_43 : decode cX1_readFrom 43 = .ok (.invokevirtual 73, 3) := by decide +kernel
theorem dX1_readFrom_46 : decode cX1_readFrom 46 = .ok (.ifCond .eq 8, 3) := by decide +kernel
theorem dX1_readFrom_49 : decode cX1_readFrom 49 = .ok (.aload_n 1, 1) := by decide +kernel
theorem dX1_readFrom_50 : decode cX1_readFrom 50 = .ok (.invokevirtual 77, 3) := by decide +kernel
theorem dX1_readFrom_53 : decode cX1_readFrom 53 = .ok (.ireturn, 1) := by decide +kernel
theorem dX1_readFrom_54 : decode cX1_readFrom 54 = .ok (.aload_n 0, 1) := by decide +kernel
theorem dX1_readFrom_55 : decode cX1_readFrom 55 = .ok (.aload_n 1, 1) := by decide +kernel
theorem dX1_readFrom_56 : decode cX1_readFrom 56 = .ok (.iload_n 3, 1) := by decide +kernel
theorem dX1_readFrom_57 : decode cX1_readFrom 57 = .ok (.invokevirtual 81, 3) := by decide +kernel
theorem dX1_readFrom_60 : decode cX1_readFrom 60 = .ok (.ifCond .eq 12, 3) := by decide +kernel
theorem dX1_readFrom_63 : decode cX1_readFrom 63 = .ok (.aload_n 1, 1) := by decide +kernel
theorem dX1_readFrom_64 : decode cX1_readFrom 64 = .ok (.bipush 59, 2) := by decide +kernel
theorem dX1_readFrom_66 : decode cX1_readFrom 66 = .ok (.invokevirtual 85, 3) := by decide +kernel
theorem dX1_readFrom_69 : decode cX1_readFrom 69 = .ok (.ifCond .ne 5, 3) := by decide +kernel
theorem dX1_readFrom_72 : decode cX1_readFrom 72 = .ok (.iconst 0, 1) := by decide +kernel
theorem dX1_readFrom_73 : decode cX1_readFrom 73 = .ok (.ireturn, 1) := by decide +kernel
theorem dX1_readFrom_74 : decode cX1_readFrom 74 = .ok (.iinc 2 1, 3) := by decide +kernel
theorem dX1_readFrom_77 : decode cX1_readFrom 77 = .ok (.goto (-71), 3) := by decide +kernel
theorem dX1_readFrom_80 : decode cX1_readFrom 80 = .ok (.iconst 0, 1) := by decide +kernel
theorem dX1_readFrom_81 : decode cX1_readFrom 81 = .ok (.ireturn, 1) := by decide +kernel
theorem dX1_isFull_0 : decode cX1_isFull 0 = .ok (.iload_n 1, 1) := by decide +kernel
theorem dX1_isFull_1 : decode cX1_isFull 1 = .ok (.tableswitch 70 0 2 #[27, 42, 56], 27) := by decide +kernel
theorem dX1_isFull_28 : decode cX1_isFull 28 = .ok (.aload_n 0, 1) := by decide +kernel
theorem dX1_isFull_29 : decode cX1_isFull 29 = .ok (.getfield 42, 3) := by decide +kernel
theorem dX1_isFull_32 : decode cX1_isFull 32 = .ok (.bipush 6, 2) := by decide +kernel
theorem dX1_isFull_34 : decode cX1_isFull 34 = .ok (.if_icmp .lt 7, 3) := by decide +kernel
theorem dX1_isFull_37 : decode cX1_isFull 37 = .ok (.iconst 1, 1) := by decide +kernel
theorem dX1_isFull_38 : decode cX1_isFull 38 = .ok (.goto 4, 3) := by decide +kernel
theorem dX1_isFull_41 : decode cX1_isFull 41 = .ok (.iconst 0, 1) := by decide +kernel
theorem dX1_isFull_42 : decode cX1_isFull 42 = .ok (.ireturn, 1) := by decide +kernel
theorem dX1_isFull_43 : decode cX1_isFull 43 = .ok (.aload_n 0, 1) := by decide +kernel
theorem dX1_isFull_44 : decode cX1_isFull 44 = .ok (.getfield 46, 3) := by decide +kernel
theorem dX1_isFull_47 : decode cX1_isFull 47 = .ok (.iconst 4, 1) := by decide +kernel
theorem dX1_isFull_48 : decode cX1_isFull 48 = .ok (.if_icmp .lt 7, 3) := by decide +kernel
theorem dX1_isFull_51 : decode cX1_isFull 51 = .ok (.iconst 1, 1) := by decide +kernel
theorem dX1_isFull_52 : decode cX1_isFull 52 = .ok (.goto 4, 3) := by decide +kernel
theorem dX1_isFull_55 : decode cX1_isFull 55 = .ok (.iconst 0, 1) := by decide +kernel
theorem dX1_isFull_56 : decode cX1_isFull 56 = .ok (.ireturn, 1) := by decide +kernel
theorem dX1_isFull_57 : decode cX1_isFull 57 = .ok (.aload_n 0, 1) := by decide +kernel
theorem dX1_isFull_58 : decode cX1_isFull 58 = .ok (.getfield 49, 3) := by decide +kernel
theorem dX1_isFull_61 : decode cX1_isFull 61 = .ok (.iconst 5, 1) := by decide +kernel
theorem dX1_isFull_62 : decode cX1_isFull 62 = .ok (.if_icmp .lt 7, 3) := by decide +kernel
theorem dX1_isFull_65 : decode cX1_isFull 65 = .ok (.iconst 1, 1) := by decide +kernel
theorem dX1_isFull_66 : decode cX1_isFull 66 = .ok (.goto 4, 3) := by decide +kernel
theorem dX1_isFull_69 : decode cX1_isFull 69 = .ok (.iconst 0, 1) := by decide +kernel
theorem dX1_isFull_70 : decode cX1_isFull 70 = .ok (.ireturn, 1) := by decide +kernel
theorem dX1_isFull_71 : decode cX1_isFull 71 = .ok (.iconst 0, 1) := by decide +kernel
theorem dX1_isFull_72 : decode cX1_isFull 72 = .ok (.ireturn, 1) := by decide +kernel
theorem dX1_readClause_0 : decode cX1_readClause 0 = .ok (.iload_n 2, 1) := by decide +kernel
theorem dX1_readClause_1 : decode cX1_readClause 1 = .ok (.tableswitch 45 0 2 #[27, 33, 39], 27) := by decide +kernel
theorem dX1_readClause_28 : decode cX1_readClause 28 = .ok (.aload_n 0, 1) := by decide +kernel
theorem dX1_readClause_29 : decode cX1_readClause 29 = .ok (.aload_n 1, 1) := by decide +kernel
theorem dX1_readClause_30 : decode cX1_readClause 30 = .ok (.invokevirtual 89, 3) := by decide +kernel
theorem dX1_readClause_33 : decode cX1_readClause 33 = .ok (.ireturn, 1) := by decide +kernel
theorem dX1_readClause_34 : decode cX1_readClause 34 = .ok (.aload_n 0, 1) := by decide +kernel
theorem dX1_readClause_35 : decode cX1_readClause 35 = .ok (.aload_n 1, 1) := by decide +kernel
theorem dX1_readClause_36 : decode cX1_readClause 36 = .ok (.invokevirtual 93, 3) := by decide +kernel
theorem dX1_readClause_39 : decode cX1_readClause 39 = .ok (.ireturn, 1) := by decide +kernel
theorem dX1_readClause_40 : decode cX1_readClause 40 = .ok (.aload_n 0, 1) := by decide +kernel
theorem dX1_readClause_41 : decode cX1_readClause 41 = .ok (.aload_n 1, 1) := by decide +kernel
theorem dX1_readClause_42 : decode cX1_readClause 42 = .ok (.invokevirtual 96, 3) := by decide +kernel
theorem dX1_readClause_45 : decode cX1_readClause 45 = .ok (.ireturn, 1) := by decide +kernel
theorem dX1_readClause_46 : decode cX1_readClause 46 = .ok (.aload_n 0, 1) := by decide +kernel
theorem dX1_readClause_47 : decode cX1_readClause 47 = .ok (.aload_n 1, 1) := by decide +kernel
theorem dX1_readClause_48 : decode cX1_readClause 48 = .ok (.invokevirtual 99, 3) := by decide +kernel
theorem dX1_readClause_51 : decode cX1_readClause 51 = .ok (.ireturn, 1) := by decide +kernel
theorem dX1_readPiece_0 : decode cX1_readPiece 0 = .ok (.aload_n 0, 1) := by decide +kernel
theorem dX1_readPiece_1 : decode cX1_readPiece 1 = .ok (.getfield 9, 3) := by decide +kernel
theorem dX1_readPiece_4 : decode cX1_readPiece 4 = .ok (.aload_n 0, 1) := by decide +kernel
theorem dX1_readPiece_5 : decode cX1_readPiece 5 = .ok (.getfield 42, 3) := by decide +kernel
theorem dX1_readPiece_8 : decode cX1_readPiece 8 = .ok (.aload_n 1, 1) := by decide +kernel
theorem dX1_readPiece_9 : decode cX1_readPiece 9 = .ok (.iconst 1, 1) := by decide +kernel
theorem dX1_readPiece_10 : decode cX1_readPiece 10 = .ok (.bipush 30, 2) := by decide +kernel
theorem dX1_readPiece_12 : decode cX1_readPiece 12 = .ok (.invokestatic 102, 3) := by decide +kernel
theorem dX1_readPiece_15 : decode cX1_readPiece 15 = .ok (.ifCond .eq 61, 3) := by decide +kernel
theorem dX1_readPiece_18 : decode cX1_readPiece 18 = .ok (.aload_n 0, 1) := by decide +kernel
theorem dX1_readPiece_19 : decode cX1_readPiece 19 = .ok (.getfield 18, 3) := by decide +kernel
theorem dX1_readPiece_22 : decode cX1_readPiece 22 = .ok (.aload_n 0, 1) := by decide +kernel
theorem dX1_readPiece_23 : decode cX1_readPiece 23 = .ok (.getfield 42, 3) := by decide +kernel
theorem dX1_readPiece_26 : decode cX1_readPiece 26 = .ok (.aload_n 1, 1) := by decide +kernel
theorem dX1_readPiece_27 : decode cX1_readPiece 27 = .ok (.iconst 0, 1) := by decide +kernel
theorem dX1_readPiece_28 : decode cX1_readPiece 28 = .ok (.bipush 9, 2) := by decide +kernel
theorem dX1_readPiece_30 : decode cX1_readPiece 30 = .ok (.invokestatic 102, 3) := by decide +kernel
theorem dX1_readPiece_33 : decode cX1_readPiece 33 = .ok (.ifCond .eq 43, 3) := by decide +kernel
theorem dX1_readPiece_36 : decode cX1_readPiece 36 = .ok (.aload_n 0, 1) := by decide +kernel
theorem dX1_readPiece_37 : decode cX1_readPiece 37 = .ok (.getfield 21, 3) := by decide +kernel
theorem dX1_readPiece_40 : decode cX1_readPiece 40 = .ok (.aload_n 0, 1) := by decide +kernel
theorem dX1_readPiece_41 : decode cX1_readPiece 41 = .ok (.getfield 42, 3) := by decide +kernel
theorem dX1_readPiece_44 : decode cX1_readPiece 44 = .ok (.aload_n 1, 1) := by decide +kernel
theorem dX1_readPiece_45 : decode cX1_readPiece 45 = .ok (.iconst 0, 1) := by decide +kernel
theorem dX1_readPiece_46 : decode cX1_readPiece 46 = .ok (.bipush 9, 2) := by decide +kernel
theorem dX1_readPiece_48 : decode cX1_readPiece 48 = .ok (.invokestatic 102, 3) := by decide +kernel
theorem dX1_readPiece_51 : decode cX1_readPiece 51 = .ok (.ifCond .eq 25, 3) := by decide +kernel
theorem dX1_readPiece_54 : decode cX1_readPiece 54 = .ok (.aload_n 0, 1) := by decide +kernel
theorem dX1_readPiece_55 : decode cX1_readPiece 55 = .ok (.getfield 15, 3) := by decide +kernel
theorem dX1_readPiece_58 : decode cX1_readPiece 58 = .ok (.aload_n 0, 1) := by decide +kernel
theorem dX1_readPiece_59 : decode cX1_readPiece 59 = .ok (.getfield 42, 3) := by decide +kernel
theorem dX1_readPiece_62 : decode cX1_readPiece 62 = .ok (.aload_n 1, 1) := by decide +kernel
theorem dX1_readPiece_63 : decode cX1_readPiece 63 = .ok (.iconst 0, 1) := by decide +kernel
theorem dX1_readPiece_64 : decode cX1_readPiece 64 = .ok (.bipush 9, 2) := by decide +kernel
theorem dX1_readPiece_66 : decode cX1_readPiece 66 = .ok (.invokestatic 102, 3) := by decide +kernel
theorem dX1_readPiece_69 : decode cX1_readPiece 69 = .ok (.ifCond .eq 7, 3) := by decide +kernel
theorem dX1_readPiece_72 : decode cX1_readPiece 72 = .ok (.iconst 1, 1) := by decide +kernel
theorem dX1_readPiece_73 : decode cX1_readPiece 73 = .ok (.goto 4, 3) := by decide +kernel
theorem dX1_readPiece_76 : decode cX1_readPiece 76 = .ok (.iconst 0, 1) := by decide +kernel
theorem dX1_readPiece_77 : decode cX1_readPiece 77 = .ok (.istore_n 2, 1) := by decide +kernel
theorem dX1_readPiece_78 : decode cX1_readPiece 78 = .ok (.aload_n 0, 1) := by decide +kernel
theorem dX1_readPiece_79 : decode cX1_readPiece 79 = .ok (.dup, 1) := by decide +kernel
theorem dX1_readPiece_80 : decode cX1_readPiece 80 = .ok (.getfield 42, 3) := by decide +kernel
theorem dX1_readPiece_83 : decode cX1_readPiece 83 = .ok (.iconst 1, 1) := by decide +kernel
theorem dX1_readPiece_84 : decode cX1_readPiece 84 = .ok (.iadd, 1) := by decide +kernel
theorem dX1_readPiece_85 : decode cX1_readPiece 85 = .ok (.putfield 42, 3) := by decide +kernel
theorem dX1_readPiece_88 : decode cX1_readPiece 88 = .ok (.iload_n 2, 1) := by decide +kernel
theorem dX1_readPiece_89 : decode cX1_readPiece 89 = .ok (.ireturn, 1) := by decide +kernel
theorem dX1_readCollar_0 : decode cX1_readCollar 0 = .ok (.aload_n 0, 1) := by decide +kernel
theorem dX1_readCollar_1 : decode cX1_readCollar 1 = .ok (.getfield 24, 3) := by decide +kernel
theorem dX1_readCollar_4 : decode cX1_readCollar 4 = .ok (.aload_n 0, 1) := by decide +kernel
theorem dX1_readCollar_5 : decode cX1_readCollar 5 = .ok (.getfield 46, 3) := by decide +kernel
theorem dX1_readCollar_8 : decode cX1_readCollar 8 = .ok (.aload_n 1, 1) := by decide +kernel
theorem dX1_readCollar_9 : decode cX1_readCollar 9 = .ok (.iconst 0, 1) := by decide +kernel
theorem dX1_readCollar_10 : decode cX1_readCollar 10 = .ok (.bipush 9, 2) := by decide +kernel
theorem dX1_readCollar_12 : decode cX1_readCollar 12 = .ok (.invokestatic 102, 3) := by decide +kernel
theorem dX1_readCollar_15 : decode cX1_readCollar 15 = .ok (.ifCond .eq 21, 3) := by decide +kernel
theorem dX1_readCollar_18 : decode cX1_readCollar 18 = .ok (.aload_n 0, 1) := by decide +kernel
theorem dX1_readCollar_19 : decode cX1_readCollar 19 = .ok (.getfield 27, 3) := by decide +kernel
theorem dX1_readCollar_22 : decode cX1_readCollar 22 = .ok (.aload_n 0, 1) := by decide +kernel
theorem dX1_readCollar_23 : decode cX1_readCollar 23 = .ok (.getfield 46, 3) := by decide +kernel
theorem dX1_readCollar_26 : decode cX1_readCollar 26 = .ok (.aload_n 1, 1) := by decide +kernel
theorem dX1_readCollar_27 : decode cX1_readCollar 27 = .ok (.iconst 0, 1) := by decide +kernel
theorem dX1_readCollar_28 : decode cX1_readCollar 28 = .ok (.bipush 9, 2) := by decide +kernel
theorem dX1_readCollar_30 : decode cX1_readCollar 30 = .ok (.invokestatic 102, 3) := by decide +kernel
theorem dX1_readCollar_33 : decode cX1_readCollar 33 = .ok (.ifCond .ne 5, 3) := by decide +kernel
theorem dX1_readCollar_36 : decode cX1_readCollar 36 = .ok (.iconst 0, 1) := by decide +kernel
theorem dX1_readCollar_37 : decode cX1_readCollar 37 = .ok (.ireturn, 1) := by decide +kernel
theorem dX1_readCollar_38 : decode cX1_readCollar 38 = .ok (.aload_n 0, 1) := by decide +kernel
theorem dX1_readCollar_39 : decode cX1_readCollar 39 = .ok (.getfield 24, 3) := by decide +kernel
theorem dX1_readCollar_42 : decode cX1_readCollar 42 = .ok (.aload_n 0, 1) := by decide +kernel
theorem dX1_readCollar_43 : decode cX1_readCollar 43 = .ok (.getfield 46, 3) := by decide +kernel
theorem dX1_readCollar_46 : decode cX1_readCollar 46 = .ok (.invokestatic 106, 3) := by decide +kernel
theorem dX1_readCollar_49 : decode cX1_readCollar 49 = .ok (.istore_n 2, 1) := by decide +kernel
theorem dX1_readCollar_50 : decode cX1_readCollar 50 = .ok (.aload_n 0, 1) := by decide +kernel
theorem dX1_readCollar_51 : decode cX1_readCollar 51 = .ok (.getfield 27, 3) := by decide +kernel
theorem dX1_readCollar_54 : decode cX1_readCollar 54 = .ok (.aload_n 0, 1) := by decide +kernel
theorem dX1_readCollar_55 : decode cX1_readCollar 55 = .ok (.getfield 46, 3) := by decide +kernel
theorem dX1_readCollar_58 : decode cX1_readCollar 58 = .ok (.invokestatic 106, 3) := by decide +kernel
theorem dX1_readCollar_61 : decode cX1_readCollar 61 = .ok (.istore_n 3, 1) := by decide +kernel
theorem dX1_readCollar_62 : decode cX1_readCollar 62 = .ok (.iload_n 2, 1) := by decide +kernel
theorem dX1_readCollar_63 : decode cX1_readCollar 63 = .ok (.iload_n 3, 1) := by decide +kernel
theorem dX1_readCollar_64 : decode cX1_readCollar 64 = .ok (.if_icmp .ne 8, 3) := by decide +kernel
theorem dX1_readCollar_67 : decode cX1_readCollar 67 = .ok (.aload_n 1, 1) := by decide +kernel
theorem dX1_readCollar_68 : decode cX1_readCollar 68 = .ok (.invokevirtual 110, 3) := by decide +kernel
theorem dX1_readCollar_71 : decode cX1_readCollar 71 = .ok (.ireturn, 1) := by decide +kernel
theorem dX1_readCollar_72 : decode cX1_readCollar 72 = .ok (.aload_n 0, 1) := by decide +kernel
theorem dX1_readCollar_73 : decode cX1_readCollar 73 = .ok (.dup, 1) := by decide +kernel
theorem dX1_readCollar_74 : decode cX1_readCollar 74 = .ok (.getfield 46, 3) := by decide +kernel
theorem dX1_readCollar_77 : decode cX1_readCollar 77 = .ok (.iconst 1, 1) := by decide +kernel
theorem dX1_readCollar_78 : decode cX1_readCollar 78 = .ok (.iadd, 1) := by decide +kernel
theorem dX1_readCollar_79 : decode cX1_readCollar 79 = .ok (.putfield 46, 3) := by decide +kernel
theorem dX1_readCollar_82 : decode cX1_readCollar 82 = .ok (.aload_n 0, 1) := by decide +kernel
theorem dX1_readCollar_83 : decode cX1_readCollar 83 = .ok (.iload_n 2, 1) := by decide +kernel
theorem dX1_readCollar_84 : decode cX1_readCollar 84 = .ok (.iload_n 3, 1) := by decide +kernel
theorem dX1_readCollar_85 : decode cX1_readCollar 85 = .ok (.invokevirtual 113, 3) := by decide +kernel
theorem dX1_readCollar_88 : decode cX1_readCollar 88 = .ok (.iconst 1, 1) := by decide +kernel
theorem dX1_readCollar_89 : decode cX1_readCollar 89 = .ok (.ireturn, 1) := by decide +kernel
theorem dX1_readFire_0 : decode cX1_readFire 0 = .ok (.aload_n 0, 1) := by decide +kernel
theorem dX1_readFire_1 : decode cX1_readFire 1 = .ok (.getfield 30, 3) := by decide +kernel
theorem dX1_readFire_4 : decode cX1_readFire 4 = .ok (.aload_n 0, 1) := by decide +kernel
theorem dX1_readFire_5 : decode cX1_readFire 5 = .ok (.getfield 49, 3) := by decide +kernel
theorem dX1_readFire_8 : decode cX1_readFire 8 = .ok (.aload_n 1, 1) := by decide +kernel
theorem dX1_readFire_9 : decode cX1_readFire 9 = .ok (.iconst 0, 1) := by decide +kernel
theorem dX1_readFire_10 : decode cX1_readFire 10 = .ok (.sipush 200, 3) := by decide +kernel
theorem dX1_readFire_13 : decode cX1_readFire 13 = .ok (.invokestatic 102, 3) := by decide +kernel
theorem dX1_readFire_16 : decode cX1_readFire 16 = .ok (.ifCond .eq 25, 3) := by decide +kernel
theorem dX1_readFire_19 : decode cX1_readFire 19 = .ok (.aload_n 0, 1) := by decide +kernel
theorem dX1_readFire_20 : decode cX1_readFire 20 = .ok (.getfield 33, 3) := by decide +kernel
theorem dX1_readFire_23 : decode cX1_readFire 23 = .ok (.aload_n 0, 1) := by decide +kernel
theorem dX1_readFire_24 : decode cX1_readFire 24 = .ok (.getfield 49, 3) := by decide +kernel
theorem dX1_readFire_27 : decode cX1_readFire 27 = .ok (.aload_n 1, 1) := by decide +kernel
theorem dX1_readFire_28 : decode cX1_readFire 28 = .ok (.iconst 1, 1) := by decide +kernel
theorem dX1_readFire_29 : decode cX1_readFire 29 = .ok (.bipush 99, 2) := by decide +kernel
theorem dX1_readFire_31 : decode cX1_readFire 31 = .ok (.invokestatic 102, 3) := by decide +kernel
theorem dX1_readFire_34 : decode cX1_readFire 34 = .ok (.ifCond .eq 7, 3) := by decide +kernel
theorem dX1_readFire_37 : decode cX1_readFire 37 = .ok (.iconst 1, 1) := by decide +kernel
theorem dX1_readFire_38 : decode cX1_readFire 38 = .ok (.goto 4, 3) := by decide +kernel
theorem dX1_readFire_41 : decode cX1_readFire 41 = .ok (.iconst 0, 1) := by decide +kernel
theorem dX1_readFire_42 : decode cX1_readFire 42 = .ok (.istore_n 2, 1) := by decide +kernel
theorem dX1_readFire_43 : decode cX1_readFire 43 = .ok (.aload_n 0, 1) := by decide +kernel
theorem dX1_readFire_44 : decode cX1_readFire 44 = .ok (.dup, 1) := by decide +kernel
theorem dX1_readFire_45 : decode cX1_readFire 45 = .ok (.getfield 49, 3) := by decide +kernel
theorem dX1_readFire_48 : decode cX1_readFire 48 = .ok (.iconst 1, 1) := by decide +kernel
theorem dX1_readFire_49 : decode cX1_readFire 49 = .ok (.iadd, 1) := by decide +kernel
theorem dX1_readFire_50 : decode cX1_readFire 50 = .ok (.putfield 49, 3) := by decide +kernel
theorem dX1_readFire_53 : decode cX1_readFire 53 = .ok (.iload_n 2, 1) := by decide +kernel
theorem dX1_readFire_54 : decode cX1_readFire 54 = .ok (.ireturn, 1) := by decide +kernel
theorem dX1_readHope_0 : decode cX1_readHope 0 = .ok (.aload_n 1, 1) := by decide +kernel
theorem dX1_readHope_1 : decode cX1_readHope 1 = .ok (.iconst 0, 1) := by decide +kernel
theorem dX1_readHope_2 : decode cX1_readHope 2 = .ok (.bipush 99, 2) := by decide +kernel
theorem dX1_readHope_4 : decode cX1_readHope 4 = .ok (.invokevirtual 117, 3) := by decide +kernel
theorem dX1_readHope_7 : decode cX1_readHope 7 = .ok (.istore_n 2, 1) := by decide +kernel
theorem dX1_readHope_8 : decode cX1_readHope 8 = .ok (.aload_n 0, 1) := by decide +kernel
theorem dX1_readHope_9 : decode cX1_readHope 9 = .ok (.aload_n 1, 1) := by decide +kernel
theorem dX1_readHope_10 : decode cX1_readHope 10 = .ok (.getfield 121, 3) := by decide +kernel
theorem dX1_readHope_13 : decode cX1_readHope 13 = .ok (.putfield 52, 3) := by decide +kernel
theorem dX1_readHope_16 : decode cX1_readHope 16 = .ok (.iload_n 2, 1) := by decide +kernel
theorem dX1_readHope_17 : decode cX1_readHope 17 = .ok (.ireturn, 1) := by decide +kernel
theorem dX1_readTo_0 : decode cX1_readTo 0 = .ok (.aload_n 2, 1) := by decide +kernel
theorem dX1_readTo_1 : decode cX1_readTo 1 = .ok (.iload_n 3, 1) := by decide +kernel
theorem dX1_readTo_2 : decode cX1_readTo 2 = .ok (.iload 4, 2) := by decide +kernel
theorem dX1_readTo_4 : decode cX1_readTo 4 = .ok (.invokevirtual 117, 3) := by decide +kernel
theorem dX1_readTo_7 : decode cX1_readTo 7 = .ok (.istore 5, 2) := by decide +kernel
theorem dX1_readTo_9 : decode cX1_readTo 9 = .ok (.aload_n 0, 1) := by decide +kernel
theorem dX1_readTo_10 : decode cX1_readTo 10 = .ok (.iload_n 1, 1) := by decide +kernel
theorem dX1_readTo_11 : decode cX1_readTo 11 = .ok (.aload_n 2, 1) := by decide +kernel
theorem dX1_readTo_12 : decode cX1_readTo 12 = .ok (.getfield 121, 3) := by decide +kernel
theorem dX1_readTo_15 : decode cX1_readTo 15 = .ok (.invokestatic 124, 3) := by decide +kernel
theorem dX1_readTo_18 : decode cX1_readTo 18 = .ok (.iload 5, 2) := by decide +kernel
theorem dX1_readTo_20 : decode cX1_readTo 20 = .ok (.ireturn, 1) := by decide +kernel
theorem dX1_join_0 : decode cX1_join 0 = .ok (.aload_n 0, 1) := by decide +kernel
theorem dX1_join_1 : decode cX1_join 1 = .ok (.getfield 36, 3) := by decide +kernel
theorem dX1_join_4 : decode cX1_join 4 = .ok (.iload_n 1, 1) := by decide +kernel
theorem dX1_join_5 : decode cX1_join 5 = .ok (.aload_n 0, 1) := by decide +kernel
theorem dX1_join_6 : decode cX1_join 6 = .ok (.getfield 36, 3) := by decide +kernel
theorem dX1_join_9 : decode cX1_join 9 = .ok (.iload_n 1, 1) := by decide +kernel
theorem dX1_join_10 : decode cX1_join 10 = .ok (.invokestatic 106, 3) := by decide +kernel
theorem dX1_join_13 : decode cX1_join 13 = .ok (.iconst 1, 1) := by decide +kernel
theorem dX1_join_14 : decode cX1_join 14 = .ok (.iload_n 2, 1) := by decide +kernel
theorem dX1_join_15 : decode cX1_join 15 = .ok (.ishl, 1) := by decide +kernel
theorem dX1_join_16 : decode cX1_join 16 = .ok (.ior, 1) := by decide +kernel
theorem dX1_join_17 : decode cX1_join 17 = .ok (.invokestatic 124, 3) := by decide +kernel
theorem dX1_join_20 : decode cX1_join 20 = .ok (.aload_n 0, 1) := by decide +kernel
theorem dX1_join_21 : decode cX1_join 21 = .ok (.getfield 36, 3) := by decide +kernel
theorem dX1_join_24 : decode cX1_join 24 = .ok (.iload_n 2, 1) := by decide +kernel
theorem dX1_join_25 : decode cX1_join 25 = .ok (.aload_n 0, 1) := by decide +kernel
theorem dX1_join_26 : decode cX1_join 26 = .ok (.getfield 36, 3) := by decide +kernel
theorem dX1_join_29 : decode cX1_join 29 = .ok (.iload_n 2, 1) := by decide +kernel
theorem dX1_join_30 : decode cX1_join 30 = .ok (.invokestatic 106, 3) := by decide +kernel
theorem dX1_join_33 : decode cX1_join 33 = .ok (.iconst 1, 1) := by decide +kernel
theorem dX1_join_34 : decode cX1_join 34 = .ok (.iload_n 1, 1) := by decide +kernel
theorem dX1_join_35 : decode cX1_join 35 = .ok (.ishl, 1) := by decide +kernel
theorem dX1_join_36 : decode cX1_join 36 = .ok (.ior, 1) := by decide +kernel
theorem dX1_join_37 : decode cX1_join 37 = .ok (.invokestatic 124, 3) := by decide +kernel
theorem dX1_join_40 : decode cX1_join 40 = .ok (.return_, 1) := by decide +kernel
theorem dX1_part_0 : decode cX1_part 0 = .ok (.aload_n 0, 1) := by decide +kernel
theorem dX1_part_1 : decode cX1_part 1 = .ok (.getfield 36, 3) := by decide +kernel
theorem dX1_part_4 : decode cX1_part 4 = .ok (.iload_n 1, 1) := by decide +kernel
theorem dX1_part_5 : decode cX1_part 5 = .ok (.aload_n 0, 1) := by decide +kernel
theorem dX1_part_6 : decode cX1_part 6 = .ok (.getfield 36, 3) := by decide +kernel
theorem dX1_part_9 : decode cX1_part 9 = .ok (.iload_n 1, 1) := by decide +kernel
theorem dX1_part_10 : decode cX1_part 10 = .ok (.invokestatic 106, 3) := by decide +kernel
theorem dX1_part_13 : decode cX1_part 13 = .ok (.iconst 1, 1) := by decide +kernel
theorem dX1_part_14 : decode cX1_part 14 = .ok (.iload_n 2, 1) := by decide +kernel
theorem dX1_part_15 : decode cX1_part 15 = .ok (.ishl, 1) := by decide +kernel
theorem dX1_part_16 : decode cX1_part 16 = .ok (.iconst (-1), 1) := by decide +kernel
theorem dX1_part_17 : decode cX1_part 17 = .ok (.ixor, 1) := by decide +kernel
theorem dX1_part_18 : decode cX1_part 18 = .ok (.iand, 1) := by decide +kernel
theorem dX1_part_19 : decode cX1_part 19 = .ok (.invokestatic 124, 3) := by decide +kernel
theorem dX1_part_22 : decode cX1_part 22 = .ok (.aload_n 0, 1) := by decide +kernel
theorem dX1_part_23 : decode cX1_part 23 = .ok (.getfield 36, 3) := by decide +kernel
theorem dX1_part_26 : decode cX1_part 26 = .ok (.iload_n 2, 1) := by decide +kernel
theorem dX1_part_27 : decode cX1_part 27 = .ok (.aload_n 0, 1) := by decide +kernel
theorem dX1_part_28 : decode cX1_part 28 = .ok (.getfield 36, 3) := by decide +kernel
theorem dX1_part_31 : decode cX1_part 31 = .ok (.iload_n 2, 1) := by decide +kernel
theorem dX1_part_32 : decode cX1_part 32 = .ok (.invokestatic 106, 3) := by decide +kernel
theorem dX1_part_35 : decode cX1_part 35 = .ok (.iconst 1, 1) := by decide +kernel
theorem dX1_part_36 : decode cX1_part 36 = .ok (.iload_n 1, 1) := by decide +kernel
theorem dX1_part_37 : decode cX1_part 37 = .ok (.ishl, 1) := by decide +kernel
theorem dX1_part_38 : decode cX1_part 38 = .ok (.iconst (-1), 1) := by decide +kernel
theorem dX1_part_39 : decode cX1_part 39 = .ok (.ixor, 1) := by decide +kernel
theorem dX1_part_40 : decode cX1_part 40 = .ok (.iand, 1) := by decide +kernel
theorem dX1_part_41 : decode cX1_part 41 = .ok (.invokestatic 124, 3) := by decide +kernel
theorem dX1_part_44 : decode cX1_part 44 = .ok (.return_, 1) := by decide +kernel
theorem dX1_joins_0 : decode cX1_joins 0 = .ok (.aload_n 0, 1) := by decide +kernel
theorem dX1_joins_1 : decode cX1_joins 1 = .ok (.getfield 36, 3) := by decide +kernel
theorem dX1_joins_4 : decode cX1_joins 4 = .ok (.iload_n 1, 1) := by decide +kernel
theorem dX1_joins_5 : decode cX1_joins 5 = .ok (.invokestatic 106, 3) := by decide +kernel
theorem dX1_joins_8 : decode cX1_joins 8 = .ok (.iload_n 2, 1) := by decide +kernel
theorem dX1_joins_9 : decode cX1_joins 9 = .ok (.invokestatic 128, 3) := by decide +kernel
theorem dX1_joins_12 : decode cX1_joins 12 = .ok (.iconst 1, 1) := by decide +kernel
theorem dX1_joins_13 : decode cX1_joins 13 = .ok (.if_icmp .ne 7, 3) := by decide +kernel
theorem dX1_joins_16 : decode cX1_joins 16 = .ok (.iconst 1, 1) := by decide +kernel
theorem dX1_joins_17 : decode cX1_joins 17 = .ok (.goto 4, 3) := by decide +kernel
theorem dX1_joins_20 : decode cX1_joins 20 = .ok (.iconst 0, 1) := by decide +kernel
theorem dX1_joins_21 : decode cX1_joins 21 = .ok (.ireturn, 1) := by decide +kernel
theorem dX1_headOf_0 : decode cX1_headOf 0 = .ok (.iload_n 1, 1) := by decide +kernel
theorem dX1_headOf_1 : decode cX1_headOf 1 = .ok (.iconst 1, 1) := by decide +kernel
theorem dX1_headOf_2 : decode cX1_headOf 2 = .ok (.iand, 1) := by decide +kernel
theorem dX1_headOf_3 : decode cX1_headOf 3 = .ok (.ifCond .ne 16, 3) := by decide +kernel
theorem dX1_headOf_6 : decode cX1_headOf 6 = .ok (.aload_n 0, 1) := by decide +kernel
theorem dX1_headOf_7 : decode cX1_headOf 7 = .ok (.getfield 18, 3) := by decide +kernel
theorem dX1_headOf_10 : decode cX1_headOf 10 = .ok (.iload_n 1, 1) := by decide +kernel
theorem dX1_headOf_11 : decode cX1_headOf 11 = .ok (.iconst 1, 1) := by decide +kernel
theorem dX1_headOf_12 : decode cX1_headOf 12 = .ok (.ishr, 1) := by decide +kernel
theorem dX1_headOf_13 : decode cX1_headOf 13 = .ok (.invokestatic 106, 3) := by decide +kernel
theorem dX1_headOf_16 : decode cX1_headOf 16 = .ok (.goto 13, 3) := by decide +kernel
theorem dX1_headOf_19 : decode cX1_headOf 19 = .ok (.aload_n 0, 1) := by decide +kernel
theorem dX1_headOf_20 : decode cX1_headOf 20 = .ok (.getfield 21, 3) := by decide +kernel
theorem dX1_headOf_23 : decode cX1_headOf 23 = .ok (.iload_n 1, 1) := by decide +kernel
theorem dX1_headOf_24 : decode cX1_headOf 24 = .ok (.iconst 1, 1) := by decide +kernel
theorem dX1_headOf_25 : decode cX1_headOf 25 = .ok (.ishr, 1) := by decide +kernel
theorem dX1_headOf_26 : decode cX1_headOf 26 = .ok (.invokestatic 106, 3) := by decide +kernel
theorem dX1_headOf_29 : decode cX1_headOf 29 = .ok (.ireturn, 1) := by decide +kernel
theorem dX1_footOf_0 : decode cX1_footOf 0 = .ok (.iload_n 1, 1) := by decide +kernel
theorem dX1_footOf_1 : decode cX1_footOf 1 = .ok (.iconst 1, 1) := by decide +kernel
theorem dX1_footOf_2 : decode cX1_footOf 2 = .ok (.iand, 1) := by decide +kernel
theorem dX1_footOf_3 : decode cX1_footOf 3 = .ok (.ifCond .ne 16, 3) := by decide +kernel
theorem dX1_footOf_6 : decode cX1_footOf 6 = .ok (.aload_n 0, 1) := by decide +kernel
theorem dX1_footOf_7 : decode cX1_footOf 7 = .ok (.getfield 21, 3) := by decide +kernel
theorem dX1_footOf_10 : decode cX1_footOf 10 = .ok (.iload_n 1, 1) := by decide +kernel
theorem dX1_footOf_11 : decode cX1_footOf 11 = .ok (.iconst 1, 1) := by decide +kernel
theorem dX1_footOf_12 : decode cX1_footOf 12 = .ok (.ishr, 1) := by decide +kernel
theorem dX1_footOf_13 : decode cX1_footOf 13 = .ok (.invokestatic 106, 3) := by decide +kernel
theorem dX1_footOf_16 : decode cX1_footOf 16 = .ok (.goto 13, 3) := by decide +kernel
theorem dX1_footOf_19 : decode cX1_footOf 19 = .ok (.aload_n 0, 1) := by decide +kernel
theorem dX1_footOf_20 : decode cX1_footOf 20 = .ok (.getfield 18, 3) := by decide +kernel
theorem dX1_footOf_23 : decode cX1_footOf 23 = .ok (.iload_n 1, 1) := by decide +kernel
theorem dX1_footOf_24 : decode cX1_footOf 24 = .ok (.iconst 1, 1) := by decide +kernel
theorem dX1_footOf_25 : decode cX1_footOf 25 = .ok (.ishr, 1) := by decide +kernel
theorem dX1_footOf_26 : decode cX1_footOf 26 = .ok (.invokestatic 106, 3) := by decide +kernel
theorem dX1_footOf_29 : decode cX1_footOf 29 = .ok (.ireturn, 1) := by decide +kernel
theorem dX1_follows_0 : decode cX1_follows 0 = .ok (.aload_n 0, 1) := by decide +kernel
theorem dX1_follows_1 : decode cX1_follows 1 = .ok (.aload_n 0, 1) := by decide +kernel
theorem dX1_follows_2 : decode cX1_follows 2 = .ok (.iload_n 1, 1) := by decide +kernel
theorem dX1_follows_3 : decode cX1_follows 3 = .ok (.invokevirtual 132, 3) := by decide +kernel
theorem dX1_follows_6 : decode cX1_follows 6 = .ok (.aload_n 0, 1) := by decide +kernel
theorem dX1_follows_7 : decode cX1_follows 7 = .ok (.iload_n 2, 1) := by decide +kernel
theorem dX1_follows_8 : decode cX1_follows 8 = .ok (.invokevirtual 136, 3) := by decide +kernel
theorem dX1_follows_11 : decode cX1_follows 11 = .ok (.invokevirtual 139, 3) := by decide +kernel
theorem dX1_follows_14 : decode cX1_follows 14 = .ok (.ireturn, 1) := by decide +kernel
theorem dX1_reaches_0 : decode cX1_reaches 0 = .ok (.iload_n 2, 1) := by decide +kernel
theorem dX1_reaches_1 : decode cX1_reaches 1 = .ok (.aload_n 0, 1) := by decide +kernel
theorem dX1_reaches_2 : decode cX1_reaches 2 = .ok (.getfield 30, 3) := by decide +kernel
theorem dX1_reaches_5 : decode cX1_reaches 5 = .ok (.iload_n 1, 1) := by decide +kernel
theorem dX1_reaches_6 : decode cX1_reaches 6 = .ok (.invokestatic 106, 3) := by decide +kernel
theorem dX1_reaches_9 : decode cX1_reaches 9 = .ok (.if_icmp .lt 19, 3) := by decide +kernel
theorem dX1_reaches_12 : decode cX1_reaches 12 = .ok (.iload_n 3, 1) := by decide +kernel
theorem dX1_reaches_13 : decode cX1_reaches 13 = .ok (.aload_n 0, 1) := by decide +kernel
theorem dX1_reaches_14 : decode cX1_reaches 14 = .ok (.getfield 33, 3) := by decide +kernel
theorem dX1_reaches_17 : decode cX1_reaches 17 = .ok (.iload_n 1, 1) := by decide +kernel
theorem dX1_reaches_18 : decode cX1_reaches 18 = .ok (.invokestatic 106, 3) := by decide +kernel
theorem dX1_reaches_21 : decode cX1_reaches 21 = .ok (.if_icmp .lt 7, 3) := by decide +kernel
theorem dX1_reaches_24 : decode cX1_reaches 24 = .ok (.iconst 1, 1) := by decide +kernel
theorem dX1_reaches_25 : decode cX1_reaches 25 = .ok (.goto 4, 3) := by decide +kernel
theorem dX1_reaches_28 : decode cX1_reaches 28 = .ok (.iconst 0, 1) := by decide +kernel
theorem dX1_reaches_29 : decode cX1_reaches 29 = .ok (.ireturn, 1) := by decide +kernel
theorem dX1_level_0 : decode cX1_level 0 = .ok (.bipush 99, 2) := by decide +kernel
theorem dX1_level_2 : decode cX1_level 2 = .ok (.istore_n 3, 1) := by decide +kernel
theorem dX1_level_3 : decode cX1_level 3 = .ok (.iload_n 3, 1) := by decide +kernel
theorem dX1_level_4 : decode cX1_level 4 = .ok (.ifCond .le 67, 3) := by decide +kernel
theorem dX1_level_7 : decode cX1_level 7 = .ok (.iconst 0, 1) := by decide +kernel
theorem dX1_level_8 : decode cX1_level 8 = .ok (.istore 4, 2) := by decide +kernel
theorem dX1_level_10 : decode cX1_level 10 = .ok (.iconst 0, 1) := by decide +kernel
theorem dX1_level_11 : decode cX1_level 11 = .ok (.istore 5, 2) := by decide +kernel
theorem dX1_level_13 : decode cX1_level 13 = .ok (.iload 5, 2) := by decide +kernel
theorem dX1_level_15 : decode cX1_level 15 = .ok (.aload_n 0, 1) := by decide +kernel
theorem dX1_level_16 : decode cX1_level 16 = .ok (.getfield 49, 3) := by decide +kernel
theorem dX1_level_19 : decode cX1_level 19 = .ok (.if_icmp .ge 38, 3) := by decide +kernel
theorem dX1_level_22 : decode cX1_level 22 = .ok (.iload 5, 2) := by decide +kernel
theorem dX1_level_24 : decode cX1_level 24 = .ok (.iconst 5, 1) := by decide +kernel
theorem dX1_level_25 : decode cX1_level 25 = .ok (.if_icmp .ge 32, 3) := by decide +kernel
theorem dX1_level_28 : decode cX1_level 28 = .ok (.iload 4, 2) := by decide +kernel
theorem dX1_level_30 : decode cX1_level 30 = .ok (.iload_n 1, 1) := by decide +kernel
theorem dX1_level_31 : decode cX1_level 31 = .ok (.iload 5, 2) := by decide +kernel
theorem dX1_level_33 : decode cX1_level 33 = .ok (.invokestatic 128, 3) := by decide +kernel
theorem dX1_level_36 : decode cX1_level 36 = .ok (.iload_n 3, 1) := by decide +kernel
theorem dX1_level_37 : decode cX1_level 37 = .ok (.aload_n 0, 1) := by decide +kernel
theorem dX1_level_38 : decode cX1_level 38 = .ok (.getfield 33, 3) := by decide +kernel
theorem dX1_level_41 : decode cX1_level 41 = .ok (.iload 5, 2) := by decide +kernel
theorem dX1_level_43 : decode cX1_level 43 = .ok (.iaload, 1) := by decide +kernel
theorem dX1_level_44 : decode cX1_level 44 = .ok (.invokestatic 142, 3) := by decide +kernel
theorem dX1_level_47 : decode cX1_level 47 = .ok (.imul, 1) := by decide +kernel
theorem dX1_level_48 : decode cX1_level 48 = .ok (.iadd, 1) := by decide +kernel
theorem dX1_level_49 : decode cX1_level 49 = .ok (.istore 4, 2) := by decide +kernel
theorem dX1_level_51 : decode cX1_level 51 = .ok (.iinc 5 1, 3) := by decide +kernel
theorem dX1_level_54 : decode cX1_level 54 = .ok (.goto (-41), 3) := by decide +kernel
theorem dX1_level_57 : decode cX1_level 57 = .ok (.iload 4, 2) := by decide +kernel
theorem dX1_level_59 : decode cX1_level 59 = .ok (.iload_n 2, 1) := by decide +kernel
theorem dX1_level_60 : decode cX1_level 60 = .ok (.if_icmp .gt 5, 3) := by decide +kernel
theorem dX1_level_63 : decode cX1_level 63 = .ok (.iload_n 3, 1) := by decide +kernel
theorem dX1_level_64 : decode cX1_level 64 = .ok (.ireturn, 1) := by decide +kernel
theorem dX1_level_65 : decode cX1_level 65 = .ok (.iinc 3 (-1), 3) := by decide +kernel
theorem dX1_level_68 : decode cX1_level 68 = .ok (.goto (-65), 3) := by decide +kernel
theorem dX1_level_71 : decode cX1_level 71 = .ok (.iconst 0, 1) := by decide +kernel
theorem dX1_level_72 : decode cX1_level 72 = .ok (.ireturn, 1) := by decide +kernel
theorem dX2_init_0 : decode cX2_init 0 = .ok (.aload_n 0, 1) := by decide +kernel
theorem dX2_init_1 : decode cX2_init 1 = .ok (.invokespecial 3, 3) := by decide +kernel
theorem dX2_init_4 : decode cX2_init 4 = .ok (.aload_n 0, 1) := by decide +kernel
theorem dX2_init_5 : decode cX2_init 5 = .ok (.sipush 150, 3) := by decide +kernel
theorem dX2_init_8 : decode cX2_init 8 = .ok (.newarray .int, 2) := by decide +kernel
theorem dX2_init_10 : decode cX2_init 10 = .ok (.putfield 9, 3) := by decide +kernel
theorem dX2_init_13 : decode cX2_init 13 = .ok (.aload_n 0, 1) := by decide +kernel
theorem dX2_init_14 : decode cX2_init 14 = .ok (.bipush 32, 2) := by decide +kernel
theorem dX2_init_16 : decode cX2_init 16 = .ok (.newarray .int, 2) := by decide +kernel
theorem dX2_init_18 : decode cX2_init 18 = .ok (.putfield 15, 3) := by decide +kernel
theorem dX2_init_21 : decode cX2_init 21 = .ok (.aload_n 0, 1) := by decide +kernel
theorem dX2_init_22 : decode cX2_init 22 = .ok (.bipush 9, 2) := by decide +kernel
theorem dX2_init_24 : decode cX2_init 24 = .ok (.newarray .int, 2) := by decide +kernel
theorem dX2_init_26 : decode cX2_init 26 = .ok (.putfield 18, 3) := by decide +kernel
theorem dX2_init_29 : decode cX2_init 29 = .ok (.aload_n 0, 1) := by decide +kernel
theorem dX2_init_30 : decode cX2_init 30 = .ok (.invokevirtual 21, 3) := by decide +kernel
theorem dX2_init_33 : decode cX2_init 33 = .ok (.return_, 1) := by decide +kernel
theorem dX2_beUntold_0 : decode cX2_beUntold 0 = .ok (.aload_n 0, 1) := by decide +kernel
theorem dX2_beUntold_1 : decode cX2_beUntold 1 = .ok (.getstatic 24, 3) := by decide +kernel
theorem dX2_beUntold_4 : decode cX2_beUntold 4 = .ok (.arraylength, 1) := by decide +kernel
theorem dX2_beUntold_5 : decode cX2_beUntold 5 = .ok (.putfield 27, 3) := by decide +kernel
theorem dX2_beUntold_8 : decode cX2_beUntold 8 = .ok (.iconst 0, 1) := by decide +kernel
theorem dX2_beUntold_9 : decode cX2_beUntold 9 = .ok (.istore_n 1, 1) := by decide +kernel
theorem dX2_beUntold_10 : decode cX2_beUntold 10 = .ok (.iload_n 1, 1) := by decide +kernel
theorem dX2_beUntold_11 : decode cX2_beUntold 11 = .ok (.getstatic 24, 3) := by decide +kernel
theorem dX2_beUntold_14 : decode cX2_beUntold 14 = .ok (.arraylength, 1) := by decide +kernel
theorem dX2_beUntold_15 : decode cX2_beUntold 15 = .ok (.if_icmp .ge 27, 3) := by decide +kernel
theorem dX2_beUntold_18 : decode cX2_beUntold 18 = .ok (.iload_n 1, 1) := by decide +kernel
theorem dX2_beUntold_19 : decode cX2_beUntold 19 = .ok (.sipush 150, 3) := by decide +kernel
theorem dX2_beUntold_22 : decode cX2_beUntold 22 = .ok (.if_icmp .ge 20, 3) := by decide +kernel
theorem dX2_beUntold_25 : decode cX2_beUntold 25 = .ok (.aload_n 0, 1) := by decide +kernel
theorem dX2_beUntold_26 : decode cX2_beUntold 26 = .ok (.getfield 9, 3) := by decide +kernel
theorem dX2_beUntold_29 : decode cX2_beUntold 29 = .ok (.iload_n 1, 1) := by decide +kernel
theorem dX2_beUntold_30 : decode cX2_beUntold 30 = .ok (.getstatic 24, 3) := by decide +kernel
theorem dX2_beUntold_33 : decode cX2_beUntold 33 = .ok (.iload_n 1, 1) := by decide +kernel
theorem dX2_beUntold_34 : decode cX2_beUntold 34 = .ok (.iaload, 1) := by decide +kernel
theorem dX2_beUntold_35 : decode cX2_beUntold 35 = .ok (.iastore, 1) := by decide +kernel
theorem dX2_beUntold_36 : decode cX2_beUntold 36 = .ok (.iinc 1 1, 3) := by decide +kernel
theorem dX2_beUntold_39 : decode cX2_beUntold 39 = .ok (.goto (-29), 3) := by decide +kernel
theorem dX2_beUntold_42 : decode cX2_beUntold 42 = .ok (.return_, 1) := by decide +kernel
theorem dX2_become_0 : decode cX2_become 0 = .ok (.aload_n 0, 1) := by decide +kernel
theorem dX2_become_1 : decode cX2_become 1 = .ok (.aload_n 1, 1) := by decide +kernel
theorem dX2_become_2 : decode cX2_become 2 = .ok (.getfield 27, 3) := by decide +kernel
theorem dX2_become_5 : decode cX2_become 5 = .ok (.putfield 27, 3) := by decide +kernel
theorem dX2_become_8 : decode cX2_become 8 = .ok (.aload_n 1, 1) := by decide +kernel
theorem dX2_become_9 : decode cX2_become 9 = .ok (.getfield 9, 3) := by decide +kernel
theorem dX2_become_12 : decode cX2_become 12 = .ok (.iconst 0, 1) := by decide +kernel
theorem dX2_become_13 : decode cX2_become 13 = .ok (.aload_n 0, 1) := by decide +kernel
theorem dX2_become_14 : decode cX2_become 14 = .ok (.getfield 9, 3) := by decide +kernel
theorem dX2_become_17 : decode cX2_become 17 = .ok (.iconst 0, 1) := by decide +kernel
theorem dX2_become_18 : decode cX2_become 18 = .ok (.sipush 150, 3) := by decide +kernel
theorem dX2_become_21 : decode cX2_become 21 = .ok (.invokestatic 31, 3) := by decide +kernel
theorem dX2_become_24 : decode cX2_become 24 = .ok (.return_, 1) := by decide +kernel
theorem dX2_readFrom_0 : decode cX2_readFrom 0 = .ok (.aload_n 0, 1) := by decide +kernel
theorem dX2_readFrom_1 : decode cX2_readFrom 1 = .ok (.iconst 0, 1) := by decide +kernel
theorem dX2_readFrom_2 : decode cX2_readFrom 2 = .ok (.putfield 27, 3) := by decide +kernel
theorem dX2_readFrom_5 : decode cX2_readFrom 5 = .ok (.aload_n 0, 1) := by decide +kernel
theorem dX2_readFrom_6 : decode cX2_readFrom 6 = .ok (.aload_n 1, 1) := by decide +kernel
theorem dX2_readFrom_7 : decode cX2_readFrom 7 = .ok (.iconst 0, 1) := by decide +kernel
theorem dX2_readFrom_8 : decode cX2_readFrom 8 = .ok (.invokevirtual 37, 3) := by decide +kernel
theorem dX2_readFrom_11 : decode cX2_readFrom 11 = .ok (.ifCond .eq 14, 3) := by decide +kernel
theorem dX2_readFrom_14 : decode cX2_readFrom 14 = .ok (.aload_n 1, 1) := by decide +kernel
theorem dX2_readFrom_15 : decode cX2_readFrom 15 = .ok (.invokevirtual 41, 3) := by decide +kernel
theorem dX2_readFrom_18 : decode cX2_readFrom 18 = .ok (.ifCond .eq 7, 3) := by decide +kernel
theorem dX2_readFrom_21 : decode cX2_readFrom 21 = .ok (.iconst 1, 1) := by decide +kernel
theorem dX2_readFrom_22 : decode cX2_readFrom 22 = .ok (.goto 4, 3) := by decide +kernel
theorem dX2_readFrom_25 : decode cX2_readFrom 25 = .ok (.iconst 0, 1) := by decide +kernel
theorem dX2_readFrom_26 : decode cX2_readFrom 26 = .ok (.ireturn, 1) := by decide +kernel
theorem dX2_readSum_0 : decode cX2_readSum 0 = .ok (.aload_n 0, 1) := by decide +kernel
theorem dX2_readSum_1 : decode cX2_readSum 1 = .ok (.aload_n 1, 1) := by decide +kernel
theorem dX2_readSum_2 : decode cX2_readSum 2 = .ok (.iload_n 2, 1) := by decide +kernel
theorem dX2_readSum_3 : decode cX2_readSum 3 = .ok (.invokevirtual 47, 3) := by decide +kernel
theorem dX2_readSum_6 : decode cX2_readSum 6 = .ok (.ifCond .ne 5, 3) := by decide +kernel
theorem dX2_readSum_9 : decode cX2_readSum 9 = .ok (.iconst 0, 1) := by decide +kernel
theorem dX2_readSum_10 : decode cX2_readSum 10 = .ok (.ireturn, 1) := by decide +kernel
theorem dX2_readSum_11 : decode cX2_readSum 11 = .ok (.iconst 0, 1) := by decide +kernel
theorem dX2_readSum_12 : decode cX2_readSum 12 = .ok (.istore_n 3, 1) := by decide +kernel
theorem dX2_readSum_13 : decode cX2_readSum 13 = .ok (.iload_n 3, 1) := by decide +kernel
theorem dX2_readSum_14 : decode cX2_readSum 14 = .ok (.sipush 150, 3) := by decide +kernel
theorem dX2_readSum_17 : decode cX2_readSum 17 = .ok (.if_icmp .ge 71, 3) := by decide +kernel
theorem dX2_readSum_20 : decode cX2_readSum 20 = .ok (.aload_n 1, 1) := by decide +kernel
theorem dX2_readSum_21 : decode cX2_readSum 21 = .ok (.invokevirtual 50, 3) := by decide +kernel
theorem dX2_readSum_24 : decode cX2_readSum 24 = .ok (.istore 4, 2) := by decide +kernel
theorem dX2_readSum_26 : decode cX2_readSum 26 = .ok (.iload 4, 2) := by decide +kernel
theorem dX2_readSum_28 : decode cX2_readSum 28 = .ok (.bipush 43, 2) := by decide +kernel
theorem dX2_readSum_30 : decode cX2_readSum 30 = .ok (.if_icmp .eq 12, 3) := by decide +kernel
theorem dX2_readSum_33 : decode cX2_readSum 33 = .ok (.iload 4, 2) := by decide +kernel
theorem dX2_readSum_35 : decode cX2_readSum 35 = .ok (.bipush 45, 2) := by decide +kernel
theorem dX2_readSum_37 : decode cX2_readSum 37 = .ok (.if_icmp .eq 5, 3) := by decide +kernel
theorem dX2_readSum_40 : decode cX2_readSum 40 = .ok (.iconst 1, 1) := by decide +kernel
theorem dX2_readSum_41 : decode cX2_readSum 41 = .ok (.ireturn, 1) := by decide +kernel
theorem dX2_readSum_42 : decode cX2_readSum 42 = .ok (.aload_n 1, 1) := by decide +kernel
theorem dX2_readSum_43 : decode cX2_readSum 43 = .ok (.iload 4, 2) := by decide +kernel
theorem dX2_readSum_45 : decode cX2_readSum 45 = .ok (.i2c, 1) := by decide +kernel
theorem dX2_readSum_46 : decode cX2_readSum 46 = .ok (.invokevirtual 54, 3) := by decide +kernel
theorem dX2_readSum_49 : decode cX2_readSum 49 = .ok (.pop, 1) := by decide +kernel
theorem dX2_readSum_50 : decode cX2_readSum 50 = .ok (.aload_n 0, 1) := by decide +kernel
theorem dX2_readSum_51 : decode cX2_readSum 51 = .ok (.aload_n 1, 1) := by decide +kernel
theorem dX2_readSum_52 : decode cX2_readSum 52 = .ok (.iload_n 2, 1) := by decide +kernel
theorem dX2_readSum_53 : decode cX2_readSum 53 = .ok (.invokevirtual 47, 3) := by decide +kernel
theorem dX2_readSum_56 : decode cX2_readSum 56 = .ok (.ifCond .ne 5, 3) := by decide +kernel
theorem dX2_readSum_59 : decode cX2_readSum 59 = .ok (.iconst 0, 1) := by decide +kernel
theorem dX2_readSum_60 : decode cX2_readSum 60 = .ok (.ireturn, 1) := by decide +kernel
theorem dX2_readSum_61 : decode cX2_readSum 61 = .ok (.aload_n 0, 1) := by decide +kernel
theorem dX2_readSum_62 : decode cX2_readSum 62 = .ok (.iload 4, 2) := by decide +kernel
theorem dX2_readSum_64 : decode cX2_readSum 64 = .ok (.bipush 43, 2) := by decide +kernel
theorem dX2_readSum_66 : decode cX2_readSum 66 = .ok (.if_icmp .ne 9, 3) := by decide +kernel
theorem dX2_readSum_69 : decode cX2_readSum 69 = .ok (.sipush 2000, 3) := by decide +kernel
theorem dX2_readSum_72 : decode cX2_readSum 72 = .ok (.goto 6, 3) := by decide +kernel
theorem dX2_readSum_75 : decode cX2_readSum 75 = .ok (.sipush 2001, 3) := by decide +kernel
theorem dX2_readSum_78 : decode cX2_readSum 78 = .ok (.invokevirtual 58, 3) := by decide +kernel
theorem dX2_readSum_81 : decode cX2_readSum 81 = .ok (.pop, 1) := by decide +kernel
theorem dX2_readSum_82 : decode cX2_readSum 82 = .ok (.iinc 3 1, 3) := by decide +kernel
theorem dX2_readSum_85 : decode cX2_readSum 85 = .ok (.goto (-72), 3) := by decide +kernel
theorem dX2_readSum_88 : decode cX2_readSum 88 = .ok (.iconst 0, 1) := by decide +kernel
theorem dX2_readSum_89 : decode cX2_readSum 89 = .ok (.ireturn, 1) := by decide +kernel
theorem dX2_readProduct_0 : decode cX2_readProduct 0 = .ok (.aload_n 0, 1) := by decide +kernel
theorem dX2_readProduct_1 : decode cX2_readProduct 1 = .ok (.aload_n 1, 1) := by decide +kernel
theorem dX2_readProduct_2 : decode cX2_readProduct 2 = .ok (.iload_n 2, 1) := by decide +kernel
theorem dX2_readProduct_3 : decode cX2_readProduct 3 = .ok (.invokevirtual 62, 3) := by decide +kernel
theorem dX2_readProduct_6 : decode cX2_readProduct 6 = .ok (.ifCond .ne 5, 3) := by decide +kernel
theorem dX2_readProduct_9 : decode cX2_readProduct 9 = .ok (.iconst 0, 1) := by decide +kernel
theorem dX2_readProduct_10 : decode cX2_readProduct 10 = .ok (.ireturn, 1) := by decide +kernel
theorem dX2_readProduct_11 : decode cX2_readProduct 11 = .ok (.iconst 0, 1) := by decide +kernel
theorem dX2_readProduct_12 : decode cX2_readProduct 12 = .ok (.istore_n 3, 1) := by decide +kernel
theorem dX2_readProduct_13 : decode cX2_readProduct 13 = .ok (.iload_n 3, 1) := by decide +kernel
theorem dX2_readProduct_14 : decode cX2_readProduct 14 = .ok (.sipush 150, 3) := by decide +kernel
theorem dX2_readProduct_17 : decode cX2_readProduct 17 = .ok (.if_icmp .ge 91, 3) := by decide +kernel
theorem dX2_readProduct_20 : decode cX2_readProduct 20 = .ok (.aload_n 1, 1) := by decide +kernel
theorem dX2_readProduct_21 : decode cX2_readProduct 21 = .ok (.invokevirtual 50, 3) := by decide +kernel
theorem dX2_readProduct_24 : decode cX2_readProduct 24 = .ok (.istore 4, 2) := by decide +kernel
theorem dX2_readProduct_26 : decode cX2_readProduct 26 = .ok (.iload 4, 2) := by decide +kernel
theorem dX2_readProduct_28 : decode cX2_readProduct 28 = .ok (.bipush 42, 2) := by decide +kernel
theorem dX2_readProduct_30 : decode cX2_readProduct 30 = .ok (.if_icmp .eq 19, 3) := by decide +kernel
theorem dX2_readProduct_33 : decode cX2_readProduct 33 = .ok (.iload 4, 2) := by decide +kernel
theorem dX2_readProduct_35 : decode cX2_readProduct 35 = .ok (.bipush 47, 2) := by decide +kernel
theorem dX2_readProduct_37 : decode cX2_readProduct 37 = .ok (.if_icmp .eq 12, 3) := by decide +kernel
theorem dX2_readProduct_40 : decode cX2_readProduct 40 = .ok (.iload 4, 2) := by decide +kernel
theorem dX2_readProduct_42 : decode cX2_readProduct 42 = .ok (.bipush 37, 2) := by decide +kernel
theorem dX2_readProduct_44 : decode cX2_readProduct 44 = .ok (.if_icmp .eq 5, 3) := by decide +kernel
theorem dX2_readProduct_47 : decode cX2_readProduct 47 = .ok (.iconst 1, 1) := by decide +kernel
theorem dX2_readProduct_48 : decode cX2_readProduct 48 = .ok (.ireturn, 1) := by decide +kernel
theorem dX2_readProduct_49 : decode cX2_readProduct 49 = .ok (.aload_n 1, 1) := by decide +kernel
theorem dX2_readProduct_50 : decode cX2_readProduct 50 = .ok (.iload 4, 2) := by decide +kernel
theorem dX2_readProduct_52 : decode cX2_readProduct 52 = .ok (.i2c, 1) := by decide +kernel
theorem dX2_readProduct_53 : decode cX2_readProduct 53 = .ok (.invokevirtual 54, 3) := by decide +kernel
theorem dX2_readProduct_56 : decode cX2_readProduct 56 = .ok (.pop, 1) := by decide +kernel
theorem dX2_readProduct_57 : decode cX2_readProduct 57 = .ok (.aload_n 0, 1) := by decide +kernel
theorem dX2_readProduct_58 : decode cX2_readProduct 58 = .ok (.aload_n 1, 1) := by decide +kernel
theorem dX2_readProduct_59 : decode cX2_readProduct 59 = .ok (.iload_n 2, 1) := by decide +kernel
theorem dX2_readProduct_60 : decode cX2_readProduct 60 = .ok (.invokevirtual 62, 3) := by decide +kernel
theorem dX2_readProduct_63 : decode cX2_readProduct 63 = .ok (.ifCond .ne 5, 3) := by decide +kernel
theorem dX2_readProduct_66 : decode cX2_readProduct 66 = .ok (.iconst 0, 1) := by decide +kernel
theorem dX2_readProduct_67 : decode cX2_readProduct 67 = .ok (.ireturn, 1) := by decide +kernel
theorem dX2_readProduct_68 : decode cX2_readProduct 68 = .ok (.aload_n 0, 1) := by decide +kernel
theorem dX2_readProduct_69 : decode cX2_readProduct 69 = .ok (.iload 4, 2) := by decide +kernel
theorem dX2_readProduct_71 : decode cX2_readProduct 71 = .ok (.bipush 42, 2) := by decide +kernel
theorem dX2_readProduct_73 : decode cX2_readProduct 73 = .ok (.if_icmp .ne 9, 3) := by decide +kernel
theorem dX2_readProduct_76 : decode cX2_readProduct 76 = .ok (.sipush 2002, 3) := by decide +kernel
theorem dX2_readProduct_79 : decode cX2_readProduct 79 = .ok (.goto 19, 3) := by decide +kernel
theorem dX2_readProduct_82 : decode cX2_readProduct 82 = .ok (.iload 4, 2) := by decide +kernel
theorem dX2_readProduct_84 : decode cX2_readProduct 84 = .ok (.bipush 47, 2) := by decide +kernel
theorem dX2_readProduct_86 : decode cX2_readProduct 86 = .ok (.if_icmp .ne 9, 3) := by decide +kernel
theorem dX2_readProduct_89 : decode cX2_readProduct 89 = .ok (.sipush 2003, 3) := by decide +kernel
theorem dX2_readProduct_92 : decode cX2_readProduct 92 = .ok (.goto 6, 3) := by decide +kernel
theorem dX2_readProduct_95 : decode cX2_readProduct 95 = .ok (.sipush 2004, 3) := by decide +kernel
theorem dX2_readProduct_98 : decode cX2_readProduct 98 = .ok (.invokevirtual 58, 3) := by decide +kernel
theorem dX2_readProduct_101 : decode cX2_readProduct 101 = .ok (.pop, 1) := by decide +kernel
theorem dX2_readProduct_102 : decode cX2_readProduct 102 = .ok (.iinc 3 1, 3) := by decide +kernel
theorem dX2_readProduct_105 : decode cX2_readProduct 105 = .ok (.goto (-92), 3) := by decide +kernel
theorem dX2_readProduct_108 : decode cX2_readProduct 108 = .ok (.iconst 0, 1) := by decide +kernel
theorem dX2_readProduct_109 : decode cX2_readProduct 109 = .ok (.ireturn, 1) := by decide +kernel
theorem dX2_readUnit_0 : decode cX2_readUnit 0 = .ok (.aload_n 1, 1) := by decide +kernel
theorem dX2_readUnit_1 : decode cX2_readUnit 1 = .ok (.invokevirtual 50, 3) := by decide +kernel
theorem dX2_readUnit_4 : decode cX2_readUnit 4 = .ok (.istore_n 3, 1) := by decide +kernel
theorem dX2_readUnit_5 : decode cX2_readUnit 5 = .ok (.iload_n 3, 1) := by decide +kernel
theorem dX2_readUnit_6 : decode cX2_readUnit 6 = .ok (.invokestatic 65, 3) := by decide +kernel
theorem dX2_readUnit_9 : decode cX2_readUnit 9 = .ok (.ifCond .eq 31, 3) := by decide +kernel
theorem dX2_readUnit_12 : decode cX2_readUnit 12 = .ok (.aload_n 1, 1) := by decide +kernel
theorem dX2_readUnit_13 : decode cX2_readUnit 13 = .ok (.iconst 0, 1) := by decide +kernel
theorem dX2_readUnit_14 : decode cX2_readUnit 14 = .ok (.sipush 999, 3) := by decide +kernel
theorem dX2_readUnit_17 : decode cX2_readUnit 17 = .ok (.invokevirtual 68, 3) := by decide +kernel
theorem dX2_readUnit_20 : decode cX2_readUnit 20 = .ok (.ifCond .eq 18, 3) := by decide +kernel
theorem dX2_readUnit_23 : decode cX2_readUnit 23 = .ok (.aload_n 0, 1) := by decide +kernel
theorem dX2_readUnit_24 : decode cX2_readUnit 24 = .ok (.aload_n 1, 1) := by decide +kernel
theorem dX2_readUnit_25 : decode cX2_readUnit 25 = .ok (.getfield 72, 3) := by decide +kernel
theorem dX2_readUnit_28 : decode cX2_readUnit 28 = .ok (.invokevirtual 58, 3) := by decide +kernel
theorem dX2_readUnit_31 : decode cX2_readUnit 31 = .ok (.ifCond .eq 7, 3) := by decide +kernel
theorem dX2_readUnit_34 : decode cX2_readUnit 34 = .ok (.iconst 1, 1) := by decide +kernel
theorem dX2_readUnit_35 : decode cX2_readUnit 35 = .ok (.goto 4, 3) := by decide +kernel
theorem dX2_readUnit_38 : decode cX2_readUnit 38 = .ok (.iconst 0, 1) := by decide +kernel
theorem dX2_readUnit_39 : decode cX2_readUnit 39 = .ok (.ireturn, 1) := by decide +kernel
theorem dX2_readUnit_40 : decode cX2_readUnit 40 = .ok (.iload_n 3, 1) := by decide +kernel
theorem dX2_readUnit_41 : decode cX2_readUnit 41 = .ok (.bipush 40, 2) := by decide +kernel
theorem dX2_readUnit_43 : decode cX2_readUnit 43 = .ok (.if_icmp .ne 49, 3) := by decide +kernel
theorem dX2_readUnit_46 : decode cX2_readUnit 46 = .ok (.iload_n 2, 1) := by decide +kernel
theorem dX2_readUnit_47 : decode cX2_readUnit 47 = .ok (.bipush 6, 2) := by decide +kernel
theorem dX2_readUnit_49 : decode cX2_readUnit 49 = .ok (.if_icmp .lt 8, 3) := by decide +kernel
theorem dX2_readUnit_52 : decode cX2_readUnit 52 = .ok (.aload_n 1, 1) := by decide +kernel
theorem dX2_readUnit_53 : decode cX2_readUnit 53 = .ok (.invokevirtual 75, 3) := by decide +kernel
theorem dX2_readUnit_56 : decode cX2_readUnit 56 = .ok (.ireturn, 1) := by decide +kernel
theorem dX2_readUnit_57 : decode cX2_readUnit 57 = .ok (.aload_n 1, 1) := by decide +kernel
theorem dX2_readUnit_58 : decode cX2_readUnit 58 = .ok (.bipush 40, 2) := by decide +kernel
theorem dX2_readUnit_60 : decode cX2_readUnit 60 = .ok (.invokevirtual 54, 3) := by decide +kernel
theorem dX2_readUnit_63 : decode cX2_readUnit 63 = .ok (.ifCond .eq 27, 3) := by decide +kernel
theorem dX2_readUnit_66 : decode cX2_readUnit 66 = .ok (.aload_n 0, 1) := by decide +kernel
theorem dX2_readUnit_67 : decode cX2_readUnit 67 = .ok (.aload_n 1, 1) := by decide +kernel
theorem dX2_readUnit_68 : decode cX2_readUnit 68 = .ok (.iload_n 2, 1) := by decide +kernel
theorem dX2_readUnit_69 : decode cX2_readUnit 69 = .ok (.iconst 1, 1) := by decide +kernel
theorem dX2_readUnit_70 : decode cX2_readUnit 70 = .ok (.iadd, 1) := by decide +kernel
theorem dX2_readUnit_71 : decode cX2_readUnit 71 = .ok (.invokevirtual 37, 3) := by decide +kernel
theorem dX2_readUnit_74 : decode cX2_readUnit 74 = .ok (.ifCond .eq 16, 3) := by decide +kernel
theorem dX2_readUnit_77 : decode cX2_readUnit 77 = .ok (.aload_n 1, 1) := by decide +kernel
theorem dX2_readUnit_78 : decode cX2_readUnit 78 = .ok (.bipush 41, 2) := by decide +kernel
theorem dX2_readUnit_80 : decode cX2_readUnit 80 = .ok (.invokevirtual 54, 3) := by decide +kernel
theorem dX2_readUnit_83 : decode cX2_readUnit 83 = .ok (.ifCond .eq 7, 3) := by decide +kernel
theorem dX2_readUnit_86 : decode cX2_readUnit 86 = .ok (.iconst 1, 1) := by decide +kernel
theorem dX2_readUnit_87 : decode cX2_readUnit 87 = .ok (.goto 4, 3) := by decide +kernel
theorem dX2_readUnit_90 : decode cX2_readUnit 90 = .ok (.iconst 0, 1) := by decide +kernel
theorem dX2_readUnit_91 : decode cX2_readUnit 91 = .ok (.ireturn, 1) := by decide +kernel
theorem dX2_readUnit_92 : decode cX2_readUnit 92 = .ok (.aload_n 1, 1) := by decide +kernel
theorem dX2_readUnit_93 : decode cX2_readUnit 93 = .ok (.ldc 78, 2) := by decide +kernel
theorem dX2_readUnit_95 : decode cX2_readUnit 95 = .ok (.invokevirtual 80, 3) := by decide +kernel
theorem dX2_readUnit_98 : decode cX2_readUnit 98 = .ok (.istore 4, 2) := by decide +kernel
theorem dX2_readUnit_100 : decode cX2_readUnit 100 = .ok (.iload 4, 2) := by decide +kernel
theorem dX2_readUnit_102 : decode cX2_readUnit 102 = .ok (.bipush 9, 2) := by decide +kernel
theorem dX2_readUnit_104 : decode cX2_readUnit 104 = .ok (.if_icmp .ge 27, 3) := by decide +kernel
theorem dX2_readUnit_107 : decode cX2_readUnit 107 = .ok (.iload 4, 2) := by decide +kernel
theorem dX2_readUnit_109 : decode cX2_readUnit 109 = .ok (.ifCond .lt 20, 3) := by decide +kernel
theorem dX2_readUnit_112 : decode cX2_readUnit 112 = .ok (.aload_n 0, 1) := by decide +kernel
theorem dX2_readUnit_113 : decode cX2_readUnit 113 = .ok (.sipush 1000, 3) := by decide +kernel
theorem dX2_readUnit_116 : decode cX2_readUnit 116 = .ok (.iload 4, 2) := by decide +kernel
theorem dX2_readUnit_118 : decode cX2_readUnit 118 = .ok (.iadd, 1) := by decide +kernel
theorem dX2_readUnit_119 : decode cX2_readUnit 119 = .ok (.invokevirtual 58, 3) := by decide +kernel
theorem dX2_readUnit_122 : decode cX2_readUnit 122 = .ok (.ifCond .eq 7, 3) := by decide +kernel
theorem dX2_readUnit_125 : decode cX2_readUnit 125 = .ok (.iconst 1, 1) := by decide +kernel
theorem dX2_readUnit_126 : decode cX2_readUnit 126 = .ok (.goto 4, 3) := by decide +kernel
theorem dX2_readUnit_129 : decode cX2_readUnit 129 = .ok (.iconst 0, 1) := by decide +kernel
theorem dX2_readUnit_130 : decode cX2_readUnit 130 = .ok (.ireturn, 1) := by decide +kernel
theorem dX2_readUnit_131 : decode cX2_readUnit 131 = .ok (.iload_n 2, 1) := by decide +kernel
theorem dX2_readUnit_132 : decode cX2_readUnit 132 = .ok (.bipush 6, 2) := by decide +kernel
theorem dX2_readUnit_134 : decode cX2_readUnit 134 = .ok (.if_icmp .lt 8, 3) := by decide +kernel
theorem dX2_readUnit_137 : decode cX2_readUnit 137 = .ok (.aload_n 1, 1) := by decide +kernel
theorem dX2_readUnit_138 : decode cX2_readUnit 138 = .ok (.invokevirtual 75, 3) := by decide +kernel
theorem dX2_readUnit_141 : decode cX2_readUnit 141 = .ok (.ireturn, 1) := by decide +kernel
theorem dX2_readUnit_142 : decode cX2_readUnit 142 = .ok (.aload_n 1, 1) := by decide +kernel
theorem dX2_readUnit_143 : decode cX2_readUnit 143 = .ok (.bipush 91, 2) := by decide +kernel
theorem dX2_readUnit_145 : decode cX2_readUnit 145 = .ok (.invokevirtual 54, 3) := by decide +kernel
theorem dX2_readUnit_148 : decode cX2_readUnit 148 = .ok (.ifCond .eq 63, 3) := by decide +kernel
theorem dX2_readUnit_151 : decode cX2_readUnit 151 = .ok (.aload_n 0, 1) := by decide +kernel
theorem dX2_readUnit_152 : decode cX2_readUnit 152 = .ok (.aload_n 1, 1) := by decide +kernel
theorem dX2_readUnit_153 : decode cX2_readUnit 153 = .ok (.iload_n 2, 1) := by decide +kernel
theorem dX2_readUnit_154 : decode cX2_readUnit 154 = .ok (.iconst 1, 1) := by decide +kernel
theorem dX2_readUnit_155 : decode cX2_readUnit 155 = .ok (.iadd, 1) := by decide +kernel
theorem dX2_readUnit_156 : decode cX2_readUnit 156 = .ok (.invokevirtual 37, 3) := by decide +kernel
theorem dX2_readUnit_159 : decode cX2_readUnit 159 = .ok (.ifCond .eq 52, 3) := by decide +kernel
theorem dX2_readUnit_162 : decode cX2_readUnit 162 = .ok (.aload_n 1, 1) := by decide +kernel
theorem dX2_readUnit_163 : decode cX2_readUnit 163 = .ok (.bipush 44, 2) := by decide +kernel
theorem dX2_readUnit_165 : decode cX2_readUnit 165 = .ok (.invokevirtual 54, 3) := by decide +kernel
theorem dX2_readUnit_168 : decode cX2_readUnit 168 = .ok (.ifCond .eq 43, 3) := by decide +kernel
theorem dX2_readUnit_171 : decode cX2_readUnit 171 = .ok (.aload_n 0, 1) := by decide +kernel
theorem dX2_readUnit_172 : decode cX2_readUnit 172 = .ok (.aload_n 1, 1) := by decide +kernel
theorem dX2_readUnit_173 : decode cX2_readUnit 173 = .ok (.iload_n 2, 1) := by decide +kernel
theorem dX2_readUnit_174 : decode cX2_readUnit 174 = .ok (.iconst 1, 1) := by decide +kernel
theorem dX2_readUnit_175 : decode cX2_readUnit 175 = .ok (.iadd, 1) := by decide +kernel
theorem dX2_readUnit_176 : decode cX2_readUnit 176 = .ok (.invokevirtual 37, 3) := by decide +kernel
theorem dX2_readUnit_179 : decode cX2_readUnit 179 = .ok (.ifCond .eq 32, 3) := by decide +kernel
theorem dX2_readUnit_182 : decode cX2_readUnit 182 = .ok (.aload_n 1, 1) := by decide +kernel
theorem dX2_readUnit_183 : decode cX2_readUnit 183 = .ok (.bipush 93, 2) := by decide +kernel
theorem dX2_readUnit_185 : decode cX2_readUnit 185 = .ok (.invokevirtual 54, 3) := by decide +kernel
theorem dX2_readUnit_188 : decode cX2_readUnit 188 = .ok (.ifCond .eq 23, 3) := by decide +kernel
theorem dX2_readUnit_191 : decode cX2_readUnit 191 = .ok (.aload_n 0, 1) := by decide +kernel
theorem dX2_readUnit_192 : decode cX2_readUnit 192 = .ok (.sipush 2005, 3) := by decide +kernel
theorem dX2_readUnit_195 : decode cX2_readUnit 195 = .ok (.iload 4, 2) := by decide +kernel
theorem dX2_readUnit_197 : decode cX2_readUnit 197 = .ok (.iadd, 1) := by decide +kernel
theorem dX2_readUnit_198 : decode cX2_readUnit 198 = .ok (.bipush 9, 2) := by decide +kernel
theorem dX2_readUnit_200 : decode cX2_readUnit 200 = .ok (.isub, 1) := by decide +kernel
theorem dX2_readUnit_201 : decode cX2_readUnit 201 = .ok (.invokevirtual 58, 3) := by decide +kernel
theorem dX2_readUnit_204 : decode cX2_readUnit 204 = .ok (.ifCond .eq 7, 3) := by decide +kernel
theorem dX2_readUnit_207 : decode cX2_readUnit 207 = .ok (.iconst 1, 1) := by decide +kernel
theorem dX2_readUnit_208 : decode cX2_readUnit 208 = .ok (.goto 4, 3) := by decide +kernel
theorem dX2_readUnit_211 : decode cX2_readUnit 211 = .ok (.iconst 0, 1) := by decide +kernel
theorem dX2_readUnit_212 : decode cX2_readUnit 212 = .ok (.ireturn, 1) := by decide +kernel
theorem dX2_add_0 : decode cX2_add 0 = .ok (.aload_n 0, 1) := by decide +kernel
theorem dX2_add_1 : decode cX2_add 1 = .ok (.getfield 9, 3) := by decide +kernel
theorem dX2_add_4 : decode cX2_add 4 = .ok (.aload_n 0, 1) := by decide +kernel
theorem dX2_add_5 : decode cX2_add 5 = .ok (.getfield 27, 3) := by decide +kernel
theorem dX2_add_8 : decode cX2_add 8 = .ok (.iload_n 1, 1) := by decide +kernel
theorem dX2_add_9 : decode cX2_add 9 = .ok (.invokestatic 84, 3) := by decide +kernel
theorem dX2_add_12 : decode cX2_add 12 = .ok (.aload_n 0, 1) := by decide +kernel
theorem dX2_add_13 : decode cX2_add 13 = .ok (.sipush 150, 3) := by decide +kernel
theorem dX2_add_16 : decode cX2_add 16 = .ok (.aload_n 0, 1) := by decide +kernel
theorem dX2_add_17 : decode cX2_add 17 = .ok (.getfield 27, 3) := by decide +kernel
theorem dX2_add_20 : decode cX2_add 20 = .ok (.iconst 1, 1) := by decide +kernel
theorem dX2_add_21 : decode cX2_add 21 = .ok (.iadd, 1) := by decide +kernel
theorem dX2_add_22 : decode cX2_add 22 = .ok (.invokestatic 88, 3) := by decide +kernel
theorem dX2_add_25 : decode cX2_add 25 = .ok (.putfield 27, 3) := by decide +kernel
theorem dX2_add_28 : decode cX2_add 28 = .ok (.iconst 1, 1) := by decide +kernel
theorem dX2_add_29 : decode cX2_add 29 = .ok (.ireturn, 1) := by decide +kernel
theorem dX2_tellPiece_0 : decode cX2_tellPiece 0 = .ok (.aload_n 0, 1) := by decide +kernel
theorem dX2_tellPiece_1 : decode cX2_tellPiece 1 = .ok (.getfield 18, 3) := by decide +kernel
theorem dX2_tellPiece_4 : decode cX2_tellPiece 4 = .ok (.iconst 1, 1) := by decide +kernel
theorem dX2_tellPiece_5 : decode cX2_tellPiece 5 = .ok (.iload_n 1, 1) := by decide +kernel
theorem dX2_tellPiece_6 : decode cX2_tellPiece 6 = .ok (.iastore, 1) := by decide +kernel
theorem dX2_tellPiece_7 : decode cX2_tellPiece 7 = .ok (.aload_n 0, 1) := by decide +kernel
theorem dX2_tellPiece_8 : decode cX2_tellPiece 8 = .ok (.getfield 18, 3) := by decide +kernel
theorem dX2_tellPiece_11 : decode cX2_tellPiece 11 = .ok (.iconst 2, 1) := by decide +kernel
theorem dX2_tellPiece_12 : decode cX2_tellPiece 12 = .ok (.iload_n 2, 1) := by decide +kernel
theorem dX2_tellPiece_13 : decode cX2_tellPiece 13 = .ok (.iastore, 1) := by decide +kernel
theorem dX2_tellPiece_14 : decode cX2_tellPiece 14 = .ok (.aload_n 0, 1) := by decide +kernel
theorem dX2_tellPiece_15 : decode cX2_tellPiece 15 = .ok (.getfield 18, 3) := by decide +kernel
theorem dX2_tellPiece_18 : decode cX2_tellPiece 18 = .ok (.bipush 6, 2) := by decide +kernel
theorem dX2_tellPiece_20 : decode cX2_tellPiece 20 = .ok (.iload_n 3, 1) := by decide +kernel
theorem dX2_tellPiece_21 : decode cX2_tellPiece 21 = .ok (.iastore, 1) := by decide +kernel
theorem dX2_tellPiece_22 : decode cX2_tellPiece 22 = .ok (.aload_n 0, 1) := by decide +kernel
theorem dX2_tellPiece_23 : decode cX2_tellPiece 23 = .ok (.getfield 18, 3) := by decide +kernel
theorem dX2_tellPiece_26 : decode cX2_tellPiece 26 = .ok (.bipush 8, 2) := by decide +kernel
theorem dX2_tellPiece_28 : decode cX2_tellPiece 28 = .ok (.iload 4, 2) := by decide +kernel
theorem dX2_tellPiece_30 : decode cX2_tellPiece 30 = .ok (.iastore, 1) := by decide +kernel
theorem dX2_tellPiece_31 : decode cX2_tellPiece 31 = .ok (.return_, 1) := by decide +kernel
theorem dX2_tellNow_0 : decode cX2_tellNow 0 = .ok (.aload_n 0, 1) := by decide +kernel
theorem dX2_tellNow_1 : decode cX2_tellNow 1 = .ok (.getfield 18, 3) := by decide +kernel
theorem dX2_tellNow_4 : decode cX2_tellNow 4 = .ok (.iconst 0, 1) := by decide +kernel
theorem dX2_tellNow_5 : decode cX2_tellNow 5 = .ok (.iload_n 1, 1) := by decide +kernel
theorem dX2_tellNow_6 : decode cX2_tellNow 6 = .ok (.iastore, 1) := by decide +kernel
theorem dX2_tellNow_7 : decode cX2_tellNow 7 = .ok (.aload_n 0, 1) := by decide +kernel
theorem dX2_tellNow_8 : decode cX2_tellNow 8 = .ok (.getfield 18, 3) := by decide +kernel
theorem dX2_tellNow_11 : decode cX2_tellNow 11 = .ok (.iconst 3, 1) := by decide +kernel
theorem dX2_tellNow_12 : decode cX2_tellNow 12 = .ok (.iload_n 2, 1) := by decide +kernel
theorem dX2_tellNow_13 : decode cX2_tellNow 13 = .ok (.iastore, 1) := by decide +kernel
theorem dX2_tellNow_14 : decode cX2_tellNow 14 = .ok (.aload_n 0, 1) := by decide +kernel
theorem dX2_tellNow_15 : decode cX2_tellNow 15 = .ok (.getfield 18, 3) := by decide +kernel
theorem dX2_tellNow_18 : decode cX2_tellNow 18 = .ok (.iconst 4, 1) := by decide +kernel
theorem dX2_tellNow_19 : decode cX2_tellNow 19 = .ok (.iload_n 3, 1) := by decide +kernel
theorem dX2_tellNow_20 : decode cX2_tellNow 20 = .ok (.iastore, 1) := by decide +kernel
theorem dX2_tellNow_21 : decode cX2_tellNow 21 = .ok (.aload_n 0, 1) := by decide +kernel
theorem dX2_tellNow_22 : decode cX2_tellNow 22 = .ok (.getfield 18, 3) := by decide +kernel
theorem dX2_tellNow_25 : decode cX2_tellNow 25 = .ok (.iconst 5, 1) := by decide +kernel
theorem dX2_tellNow_26 : decode cX2_tellNow 26 = .ok (.iload 4, 2) := by decide +kernel
theorem dX2_tellNow_28 : decode cX2_tellNow 28 = .ok (.iastore, 1) := by decide +kernel
theorem dX2_tellNow_29 : decode cX2_tellNow 29 = .ok (.aload_n 0, 1) := by decide +kernel
theorem dX2_tellNow_30 : decode cX2_tellNow 30 = .ok (.getfield 18, 3) := by decide +kernel
theorem dX2_tellNow_33 : decode cX2_tellNow 33 = .ok (.bipush 7, 2) := by decide +kernel
theorem dX2_tellNow_35 : decode cX2_tellNow 35 = .ok (.iload 5, 2) := by decide +kernel
theorem dX2_tellNow_37 : decode cX2_tellNow 37 = .ok (.iastore, 1) := by decide +kernel
theorem dX2_tellNow_38 : decode cX2_tellNow 38 = .ok (.return_, 1) := by decide +kernel
theorem dX2_left_0 : decode cX2_left 0 = .ok (.iconst 0, 1) := by decide +kernel
theorem dX2_left_1 : decode cX2_left 1 = .ok (.istore_n 1, 1) := by decide +kernel
theorem dX2_left_2 : decode cX2_left 2 = .ok (.iconst 0, 1) := by decide +kernel
theorem dX2_left_3 : decode cX2_left 3 = .ok (.istore_n 2, 1) := by decide +kernel
theorem dX2_left_4 : decode cX2_left 4 = .ok (.iload_n 2, 1) := by decide +kernel
theorem dX2_left_5 : decode cX2_left 5 = .ok (.aload_n 0, 1) := by decide +kernel
theorem dX2_left_6 : decode cX2_left 6 = .ok (.getfield 27, 3) := by decide +kernel
theorem dX2_left_9 : decode cX2_left 9 = .ok (.if_icmp .ge 107, 3) := by decide +kernel
theorem dX2_left_12 : decode cX2_left 12 = .ok (.iload_n 2, 1) := by decide +kernel
theorem dX2_left_13 : decode cX2_left 13 = .ok (.sipush 150, 3) := by decide +kernel
theorem dX2_left_16 : decode cX2_left 16 = .ok (.if_icmp .ge 100, 3) := by decide +kernel
theorem dX2_left_19 : decode cX2_left 19 = .ok (.aload_n 0, 1) := by decide +kernel
theorem dX2_left_20 : decode cX2_left 20 = .ok (.getfield 9, 3) := by decide +kernel
theorem dX2_left_23 : decode cX2_left 23 = .ok (.iload_n 2, 1) := by decide +kernel
theorem dX2_left_24 : decode cX2_left 24 = .ok (.iaload, 1) := by decide +kernel
theorem dX2_left_25 : decode cX2_left 25 = .ok (.istore_n 3, 1) := by decide +kernel
theorem dX2_left_26 : decode cX2_left 26 = .ok (.iload_n 3, 1) := by decide +kernel
theorem dX2_left_27 : decode cX2_left 27 = .ok (.sipush 2000, 3) := by decide +kernel
theorem dX2_left_30 : decode cX2_left 30 = .ok (.if_icmp .ge 40, 3) := by decide +kernel
theorem dX2_left_33 : decode cX2_left 33 = .ok (.aload_n 0, 1) := by decide +kernel
theorem dX2_left_34 : decode cX2_left 34 = .ok (.getfield 15, 3) := by decide +kernel
theorem dX2_left_37 : decode cX2_left 37 = .ok (.iload_n 1, 1) := by decide +kernel
theorem dX2_left_38 : decode cX2_left 38 = .ok (.iload_n 3, 1) := by decide +kernel
theorem dX2_left_39 : decode cX2_left 39 = .ok (.sipush 1000, 3) := by decide +kernel
theorem dX2_left_42 : decode cX2_left 42 = .ok (.if_icmp .ge 7, 3) := by decide +kernel
theorem dX2_left_45 : decode cX2_left 45 = .ok (.iload_n 3, 1) := by decide +kernel
theorem dX2_left_46 : decode cX2_left 46 = .ok (.goto 15, 3) := by decide +kernel
theorem dX2_left_49 : decode cX2_left 49 = .ok (.aload_n 0, 1) := by decide +kernel
theorem dX2_left_50 : decode cX2_left 50 = .ok (.getfield 18, 3) := by decide +kernel
theorem dX2_left_53 : decode cX2_left 53 = .ok (.iload_n 3, 1) := by decide +kernel
theorem dX2_left_54 : decode cX2_left 54 = .ok (.sipush 1000, 3) := by decide +kernel
theorem dX2_left_57 : decode cX2_left 57 = .ok (.isub, 1) := by decide +kernel
theorem dX2_left_58 : decode cX2_left 58 = .ok (.invokestatic 94, 3) := by decide +kernel
theorem dX2_left_61 : decode cX2_left 61 = .ok (.invokestatic 84, 3) := by decide +kernel
theorem dX2_left_64 : decode cX2_left 64 = .ok (.iinc 1 1, 3) := by decide +kernel
theorem dX2_left_67 : decode cX2_left 67 = .ok (.goto 43, 3) := by decide +kernel
theorem dX2_left_70 : decode cX2_left 70 = .ok (.iload_n 1, 1) := by decide +kernel
theorem dX2_left_71 : decode cX2_left 71 = .ok (.iconst 2, 1) := by decide +kernel
theorem dX2_left_72 : decode cX2_left 72 = .ok (.if_icmp .lt 38, 3) := by decide +kernel
theorem dX2_left_75 : decode cX2_left 75 = .ok (.iload_n 1, 1) := by decide +kernel
theorem dX2_left_76 : decode cX2_left 76 = .ok (.bipush 32, 2) := by decide +kernel
theorem dX2_left_78 : decode cX2_left 78 = .ok (.if_icmp .gt 32, 3) := by decide +kernel
theorem dX2_left_81 : decode cX2_left 81 = .ok (.iinc 1 (-1), 3) := by decide +kernel
theorem dX2_left_84 : decode cX2_left 84 = .ok (.aload_n 0, 1) := by decide +kernel
theorem dX2_left_85 : decode cX2_left 85 = .ok (.getfield 15, 3) := by decide +kernel
theorem dX2_left_88 : decode cX2_left 88 = .ok (.iload_n 1, 1) := by decide +kernel
theorem dX2_left_89 : decode cX2_left 89 = .ok (.iconst 1, 1) := by decide +kernel
theorem dX2_left_90 : decode cX2_left 90 = .ok (.isub, 1) := by decide +kernel
theorem dX2_left_91 : decode cX2_left 91 = .ok (.iload_n 3, 1) := by decide +kernel
theorem dX2_left_92 : decode cX2_left 92 = .ok (.aload_n 0, 1) := by decide +kernel
theorem dX2_left_93 : decode cX2_left 93 = .ok (.getfield 15, 3) := by decide +kernel
theorem dX2_left_96 : decode cX2_left 96 = .ok (.iload_n 1, 1) := by decide +kernel
theorem dX2_left_97 : decode cX2_left 97 = .ok (.iconst 1, 1) := by decide +kernel
theorem dX2_left_98 : decode cX2_left 98 = .ok (.isub, 1) := by decide +kernel
theorem dX2_left_99 : decode cX2_left 99 = .ok (.iaload, 1) := by decide +kernel
theorem dX2_left_100 : decode cX2_left 100 = .ok (.aload_n 0, 1) := by decide +kernel
theorem dX2_left_101 : decode cX2_left 101 = .ok (.getfield 15, 3) := by decide +kernel
theorem dX2_left_104 : decode cX2_left 104 = .ok (.iload_n 1, 1) := by decide +kernel
theorem dX2_left_105 : decode cX2_left 105 = .ok (.iaload, 1) := by decide +kernel
theorem dX2_left_106 : decode cX2_left 106 = .ok (.invokestatic 98, 3) := by decide +kernel
theorem dX2_left_109 : decode cX2_left 109 = .ok (.iastore, 1) := by decide +kernel
theorem dX2_left_110 : decode cX2_left 110 = .ok (.iinc 2 1, 3) := by decide +kernel
theorem dX2_left_113 : decode cX2_left 113 = .ok (.goto (-109), 3) := by decide +kernel
theorem dX2_left_116 : decode cX2_left 116 = .ok (.aload_n 0, 1) := by decide +kernel
theorem dX2_left_117 : decode cX2_left 117 = .ok (.getfield 15, 3) := by decide +kernel
theorem dX2_left_120 : decode cX2_left 120 = .ok (.iconst 0, 1) := by decide +kernel
theorem dX2_left_121 : decode cX2_left 121 = .ok (.iaload, 1) := by decide +kernel
theorem dX2_left_122 : decode cX2_left 122 = .ok (.istore_n 2, 1) := by decide +kernel
theorem dX2_left_123 : decode cX2_left 123 = .ok (.iload_n 2, 1) := by decide +kernel
theorem dX2_left_124 : decode cX2_left 124 = .ok (.ifCond .ge 7, 3) := by decide +kernel
theorem dX2_left_127 : decode cX2_left 127 = .ok (.iconst 0, 1) := by decide +kernel
theorem dX2_left_128 : decode cX2_left 128 = .ok (.goto 15, 3) := by decide +kernel
theorem dX2_left_131 : decode cX2_left 131 = .ok (.iload_n 2, 1) := by decide +kernel
theorem dX2_left_132 : decode cX2_left 132 = .ok (.bipush 99, 2) := by decide +kernel
theorem dX2_left_134 : decode cX2_left 134 = .ok (.if_icmp .le 8, 3) := by decide +kernel
theorem dX2_left_137 : decode cX2_left 137 = .ok (.bipush 99, 2) := by decide +kernel
theorem dX2_left_139 : decode cX2_left 139 = .ok (.goto 4, 3) := by decide +kernel
theorem dX2_left_142 : decode cX2_left 142 = .ok (.iload_n 2, 1) := by decide +kernel
theorem dX2_left_143 : decode cX2_left 143 = .ok (.ireturn, 1) := by decide +kernel
theorem dX2_reckon_0 : decode cX2_reckon 0 = .ok (.iload_n 0, 1) := by decide +kernel
theorem dX2_reckon_1 : decode cX2_reckon 1 = .ok (.tableswitch 86 2000 2005 #[39, 43, 47, 51, 63, 75], 39) := by decide +kernel
theorem dX2_reckon_40 : decode cX2_reckon 40 = .ok (.iload_n 1, 1) := by decide +kernel
theorem dX2_reckon_41 : decode cX2_reckon 41 = .ok (.iload_n 2, 1) := by decide +kernel
theorem dX2_reckon_42 : decode cX2_reckon 42 = .ok (.iadd, 1) := by decide +kernel
theorem dX2_reckon_43 : decode cX2_reckon 43 = .ok (.ireturn, 1) := by decide +kernel
theorem dX2_reckon_44 : decode cX2_reckon 44 = .ok (.iload_n 1, 1) := by decide +kernel
theorem dX2_reckon_45 : decode cX2_reckon 45 = .ok (.iload_n 2, 1) := by decide +kernel
theorem dX2_reckon_46 : decode cX2_reckon 46 = .ok (.isub, 1) := by decide +kernel
theorem dX2_reckon_47 : decode cX2_reckon 47 = .ok (.ireturn, 1) := by decide +kernel
theorem dX2_reckon_48 : decode cX2_reckon 48 = .ok (.iload_n 1, 1) := by decide +kernel
theorem dX2_reckon_49 : decode cX2_reckon 49 = .ok (.iload_n 2, 1) := by decide +kernel
theorem dX2_reckon_50 : decode cX2_reckon 50 = .ok (.imul, 1) := by decide +kernel
theorem dX2_reckon_51 : decode cX2_reckon 51 = .ok (.ireturn, 1) := by decide +kernel
theorem dX2_reckon_52 : decode cX2_reckon 52 = .ok (.iload_n 2, 1) := by decide +kernel
theorem dX2_reckon_53 : decode cX2_reckon 53 = .ok (.ifCond .ne 7, 3) := by decide +kernel
theorem dX2_reckon_56 : decode cX2_reckon 56 = .ok (.iconst 0, 1) := by decide +kernel
theorem dX2_reckon_57 : decode cX2_reckon 57 = .ok (.goto 6, 3) := by decide +kernel
theorem dX2_reckon_60 : decode cX2_reckon 60 = .ok (.iload_n 1, 1) := by decide +kernel
theorem dX2_reckon_61 : decode cX2_reckon 61 = .ok (.iload_n 2, 1) := by decide +kernel
theorem dX2_reckon_62 : decode cX2_reckon 62 = .ok (.idiv, 1) := by decide +kernel
theorem dX2_reckon_63 : decode cX2_reckon 63 = .ok (.ireturn, 1) := by decide +kernel
theorem dX2_reckon_64 : decode cX2_reckon 64 = .ok (.iload_n 2, 1) := by decide +kernel
theorem dX2_reckon_65 : decode cX2_reckon 65 = .ok (.ifCond .ne 7, 3) := by decide +kernel
theorem dX2_reckon_68 : decode cX2_reckon 68 = .ok (.iconst 0, 1) := by decide +kernel
theorem dX2_reckon_69 : decode cX2_reckon 69 = .ok (.goto 6, 3) := by decide +kernel
theorem dX2_reckon_72 : decode cX2_reckon 72 = .ok (.iload_n 1, 1) := by decide +kernel
theorem dX2_reckon_73 : decode cX2_reckon 73 = .ok (.iload_n 2, 1) := by decide +kernel
theorem dX2_reckon_74 : decode cX2_reckon 74 = .ok (.irem, 1) := by decide +kernel
theorem dX2_reckon_75 : decode cX2_reckon 75 = .ok (.ireturn, 1) := by decide +kernel
theorem dX2_reckon_76 : decode cX2_reckon 76 = .ok (.iload_n 1, 1) := by decide +kernel
theorem dX2_reckon_77 : decode cX2_reckon 77 = .ok (.iload_n 2, 1) := by decide +kernel
theorem dX2_reckon_78 : decode cX2_reckon 78 = .ok (.if_icmp .gt 7, 3) := by decide +kernel
theorem dX2_reckon_81 : decode cX2_reckon 81 = .ok (.iload_n 1, 1) := by decide +kernel
theorem dX2_reckon_82 : decode cX2_reckon 82 = .ok (.goto 4, 3) := by decide +kernel
theorem dX2_reckon_85 : decode cX2_reckon 85 = .ok (.iload_n 2, 1) := by decide +kernel
theorem dX2_reckon_86 : decode cX2_reckon 86 = .ok (.ireturn, 1) := by decide +kernel
theorem dX2_reckon_87 : decode cX2_reckon 87 = .ok (.iload_n 1, 1) := by decide +kernel
theorem dX2_reckon_88 : decode cX2_reckon 88 = .ok (.iload_n 2, 1) := by decide +kernel
theorem dX2_reckon_89 : decode cX2_reckon 89 = .ok (.if_icmp .lt 7, 3) := by decide +kernel
theorem dX2_reckon_92 : decode cX2_reckon 92 = .ok (.iload_n 1, 1) := by decide +kernel
theorem dX2_reckon_93 : decode cX2_reckon 93 = .ok (.goto 4, 3) := by decide +kernel
theorem dX2_reckon_96 : decode cX2_reckon 96 = .ok (.iload_n 2, 1) := by decide +kernel
theorem dX2_reckon_97 : decode cX2_reckon 97 = .ok (.ireturn, 1) := by decide +kernel
theorem dX3_init_0 : decode cX3_init 0 = .ok (.aload_n 0, 1) := by decide +kernel
theorem dX3_init_1 : decode cX3_init 1 = .ok (.invokespecial 3, 3) := by decide +kernel
theorem dX3_init_4 : decode cX3_init 4 = .ok (.aload_n 0, 1) := by decide +kernel
theorem dX3_init_5 : decode cX3_init 5 = .ok (.bipush 6, 2) := by decide +kernel
theorem dX3_init_7 : decode cX3_init 7 = .ok (.newarray .int, 2) := by decide +kernel
theorem dX3_init_9 : decode cX3_init 9 = .ok (.putfield 9, 3) := by decide +kernel
theorem dX3_init_12 : decode cX3_init 12 = .ok (.aload_n 0, 1) := by decide +kernel
theorem dX3_init_13 : decode cX3_init 13 = .ok (.bipush 6, 2) := by decide +kernel
theorem dX3_init_15 : decode cX3_init 15 = .ok (.newarray .int, 2) := by decide +kernel
theorem dX3_init_17 : decode cX3_init 17 = .ok (.putfield 15, 3) := by decide +kernel
theorem dX3_init_20 : decode cX3_init 20 = .ok (.aload_n 0, 1) := by decide +kernel
theorem dX3_init_21 : decode cX3_init 21 = .ok (.bipush 6, 2) := by decide +kernel
theorem dX3_init_23 : decode cX3_init 23 = .ok (.newarray .int, 2) := by decide +kernel
theorem dX3_init_25 : decode cX3_init 25 = .ok (.putfield 18, 3) := by decide +kernel
theorem dX3_init_28 : decode cX3_init 28 = .ok (.aload_n 0, 1) := by decide +kernel
theorem dX3_init_29 : decode cX3_init 29 = .ok (.iconst 5, 1) := by decide +kernel
theorem dX3_init_30 : decode cX3_init 30 = .ok (.newarray .int, 2) := by decide +kernel
theorem dX3_init_32 : decode cX3_init 32 = .ok (.putfield 21, 3) := by decide +kernel
theorem dX3_init_35 : decode cX3_init 35 = .ok (.return_, 1) := by decide +kernel
theorem dX3_begin_0 : decode cX3_begin 0 = .ok (.aload_n 0, 1) := by decide +kernel
theorem dX3_begin_1 : decode cX3_begin 1 = .ok (.getfield 15, 3) := by decide +kernel
theorem dX3_begin_4 : decode cX3_begin 4 = .ok (.iconst 0, 1) := by decide +kernel
theorem dX3_begin_5 : decode cX3_begin 5 = .ok (.invokestatic 24, 3) := by decide +kernel
theorem dX3_begin_8 : decode cX3_begin 8 = .ok (.aload_n 0, 1) := by decide +kernel
theorem dX3_begin_9 : decode cX3_begin 9 = .ok (.getfield 18, 3) := by decide +kernel
theorem dX3_begin_12 : decode cX3_begin 12 = .ok (.iconst 0, 1) := by decide +kernel
theorem dX3_begin_13 : decode cX3_begin 13 = .ok (.invokestatic 24, 3) := by decide +kernel
theorem dX3_begin_16 : decode cX3_begin 16 = .ok (.aload_n 0, 1) := by decide +kernel
theorem dX3_begin_17 : decode cX3_begin 17 = .ok (.getfield 21, 3) := by decide +kernel
theorem dX3_begin_20 : decode cX3_begin 20 = .ok (.iconst (-1), 1) := by decide +kernel
theorem dX3_begin_21 : decode cX3_begin 21 = .ok (.invokestatic 24, 3) := by decide +kernel
theorem dX3_begin_24 : decode cX3_begin 24 = .ok (.aload_n 0, 1) := by decide +kernel
theorem dX3_begin_25 : decode cX3_begin 25 = .ok (.iconst 0, 1) := by decide +kernel
theorem dX3_begin_26 : decode cX3_begin 26 = .ok (.putfield 30, 3) := by decide +kernel
theorem dX3_begin_29 : decode cX3_begin 29 = .ok (.aload_n 0, 1) := by decide +kernel
theorem dX3_begin_30 : decode cX3_begin 30 = .ok (.iconst 0, 1) := by decide +kernel
theorem dX3_begin_31 : decode cX3_begin 31 = .ok (.putfield 34, 3) := by decide +kernel
theorem dX3_begin_34 : decode cX3_begin 34 = .ok (.aload_n 0, 1) := by decide +kernel
theorem dX3_begin_35 : decode cX3_begin 35 = .ok (.iconst 0, 1) := by decide +kernel
theorem dX3_begin_36 : decode cX3_begin 36 = .ok (.putfield 37, 3) := by decide +kernel
theorem dX3_begin_39 : decode cX3_begin 39 = .ok (.aload_n 0, 1) := by decide +kernel
theorem dX3_begin_40 : decode cX3_begin 40 = .ok (.iload_n 1, 1) := by decide +kernel
theorem dX3_begin_41 : decode cX3_begin 41 = .ok (.putfield 40, 3) := by decide +kernel
theorem dX3_begin_44 : decode cX3_begin 44 = .ok (.return_, 1) := by decide +kernel
theorem dX3_become_0 : decode cX3_become 0 = .ok (.aload_n 1, 1) := by decide +kernel
theorem dX3_become_1 : decode cX3_become 1 = .ok (.getfield 9, 3) := by decide +kernel
theorem dX3_become_4 : decode cX3_become 4 = .ok (.iconst 0, 1) := by decide +kernel
theorem dX3_become_5 : decode cX3_become 5 = .ok (.aload_n 0, 1) := by decide +kernel
theorem dX3_become_6 : decode cX3_become 6 = .ok (.getfield 9, 3) := by decide +kernel
theorem dX3_become_9 : decode cX3_become 9 = .ok (.iconst 0, 1) := by decide +kernel
theorem dX3_become_10 : decode cX3_become 10 = .ok (.bipush 6, 2) := by decide +kernel
theorem dX3_become_12 : decode cX3_become 12 = .ok (.invokestatic 43, 3) := by decide +kernel
theorem dX3_become_15 : decode cX3_become 15 = .ok (.aload_n 1, 1) := by decide +kernel
theorem dX3_become_16 : decode cX3_become 16 = .ok (.getfield 15, 3) := by decide +kernel
theorem dX3_become_19 : decode cX3_become 19 = .ok (.iconst 0, 1) := by decide +kernel
theorem dX3_become_20 : decode cX3_become 20 = .ok (.aload_n 0, 1) := by decide +kernel
theorem dX3_become_21 : decode cX3_become 21 = .ok (.getfield 15, 3) := by decide +kernel
theorem dX3_become_24 : decode cX3_become 24 = .ok (.iconst 0, 1) := by decide +kernel
theorem dX3_become_25 : decode cX3_become 25 = .ok (.bipush 6, 2) := by decide +kernel
theorem dX3_become_27 : decode cX3_become 27 = .ok (.invokestatic 43, 3) := by decide +kernel
theorem dX3_become_30 : decode cX3_become 30 = .ok (.aload_n 1, 1) := by decide +kernel
theorem dX3_become_31 : decode cX3_become 31 = .ok (.getfield 18, 3) := by decide +kernel
theorem dX3_become_34 : decode cX3_become 34 = .ok (.iconst 0, 1) := by decide +kernel
theorem dX3_become_35 : decode cX3_become 35 = .ok (.aload_n 0, 1) := by decide +kernel
theorem dX3_become_36 : decode cX3_become 36 = .ok (.getfield 18, 3) := by decide +kernel
theorem dX3_become_39 : decode cX3_become 39 = .ok (.iconst 0, 1) := by decide +kernel
theorem dX3_become_40 : decode cX3_become 40 = .ok (.bipush 6, 2) := by decide +kernel
theorem dX3_become_42 : decode cX3_become 42 = .ok (.invokestatic 43, 3) := by decide +kernel
theorem dX3_become_45 : decode cX3_become 45 = .ok (.aload_n 1, 1) := by decide +kernel
theorem dX3_become_46 : decode cX3_become 46 = .ok (.getfield 21, 3) := by decide +kernel
theorem dX3_become_49 : decode cX3_become 49 = .ok (.iconst 0, 1) := by decide +kernel
theorem dX3_become_50 : decode cX3_become 50 = .ok (.aload_n 0, 1) := by decide +kernel
theorem dX3_become_51 : decode cX3_become 51 = .ok (.getfield 21, 3) := by decide +kernel
theorem dX3_become_54 : decode cX3_become 54 = .ok (.iconst 0, 1) := by decide +kernel
theorem dX3_become_55 : decode cX3_become 55 = .ok (.iconst 5, 1) := by decide +kernel
theorem dX3_become_56 : decode cX3_become 56 = .ok (.invokestatic 43, 3) := by decide +kernel
theorem dX3_become_59 : decode cX3_become 59 = .ok (.aload_n 0, 1) := by decide +kernel
theorem dX3_become_60 : decode cX3_become 60 = .ok (.aload_n 1, 1) := by decide +kernel
theorem dX3_become_61 : decode cX3_become 61 = .ok (.getfield 30, 3) := by decide +kernel
theorem dX3_become_64 : decode cX3_become 64 = .ok (.putfield 30, 3) := by decide +kernel
theorem dX3_become_67 : decode cX3_become 67 = .ok (.aload_n 0, 1) := by decide +kernel
theorem dX3_become_68 : decode cX3_become 68 = .ok (.aload_n 1, 1) := by decide +kernel
theorem dX3_become_69 : decode cX3_become 69 = .ok (.getfield 34, 3) := by decide +kernel
theorem dX3_become_72 : decode cX3_become 72 = .ok (.putfield 34, 3) := by decide +kernel
theorem dX3_become_75 : decode cX3_become 75 = .ok (.aload_n 0, 1) := by decide +kernel
theorem dX3_become_76 : decode cX3_become 76 = .ok (.aload_n 1, 1) := by decide +kernel
theorem dX3_become_77 : decode cX3_become 77 = .ok (.getfield 37, 3) := by decide +kernel
theorem dX3_become_80 : decode cX3_become 80 = .ok (.putfield 37, 3) := by decide +kernel
theorem dX3_become_83 : decode cX3_become 83 = .ok (.aload_n 0, 1) := by decide +kernel
theorem dX3_become_84 : decode cX3_become 84 = .ok (.aload_n 1, 1) := by decide +kernel
theorem dX3_become_85 : decode cX3_become 85 = .ok (.getfield 40, 3) := by decide +kernel
theorem dX3_become_88 : decode cX3_become 88 = .ok (.putfield 40, 3) := by decide +kernel
theorem dX3_become_91 : decode cX3_become 91 = .ok (.return_, 1) := by decide +kernel
theorem dX3_writeTo_0 : decode cX3_writeTo 0 = .ok (.iload_n 2, 1) := by decide +kernel
theorem dX3_writeTo_1 : decode cX3_writeTo 1 = .ok (.ifCond .lt 12, 3) := by decide +kernel
theorem dX3_writeTo_4 : decode cX3_writeTo 4 = .ok (.iload_n 2, 1) := by decide +kernel
theorem dX3_writeTo_5 : decode cX3_writeTo 5 = .ok (.aload_n 1, 1) := by decide +kernel
theorem dX3_writeTo_6 : decode cX3_writeTo 6 = .ok (.arraylength, 1) := by decide +kernel
theorem dX3_writeTo_7 : decode cX3_writeTo 7 = .ok (.bipush 27, 2) := by decide +kernel
theorem dX3_writeTo_9 : decode cX3_writeTo 9 = .ok (.isub, 1) := by decide +kernel
theorem dX3_writeTo_10 : decode cX3_writeTo 10 = .ok (.if_icmp .le 4, 3) := by decide +kernel
theorem dX3_writeTo_13 : decode cX3_writeTo 13 = .ok (.return_, 1) := by decide +kernel
theorem dX3_writeTo_14 : decode cX3_writeTo 14 = .ok (.aload_n 0, 1) := by decide +kernel
theorem dX3_writeTo_15 : decode cX3_writeTo 15 = .ok (.getfield 9, 3) := by decide +kernel
theorem dX3_writeTo_18 : decode cX3_writeTo 18 = .ok (.iconst 0, 1) := by decide +kernel
theorem dX3_writeTo_19 : decode cX3_writeTo 19 = .ok (.aload_n 1, 1) := by decide +kernel
theorem dX3_writeTo_20 : decode cX3_writeTo 20 = .ok (.iload_n 2, 1) := by decide +kernel
theorem dX3_writeTo_21 : decode cX3_writeTo 21 = .ok (.bipush 6, 2) := by decide +kernel
theorem dX3_writeTo_23 : decode cX3_writeTo 23 = .ok (.invokestatic 43, 3) := by decide +kernel
theorem dX3_writeTo_26 : decode cX3_writeTo 26 = .ok (.aload_n 0, 1) := by decide +kernel
theorem dX3_writeTo_27 : decode cX3_writeTo 27 = .ok (.getfield 15, 3) := by decide +kernel
theorem dX3_writeTo_30 : decode cX3_writeTo 30 = .ok (.iconst 0, 1) := by decide +kernel
theorem dX3_writeTo_31 : decode cX3_writeTo 31 = .ok (.aload_n 1, 1) := by decide +kernel
theorem dX3_writeTo_32 : decode cX3_writeTo 32 = .ok (.iload_n 2, 1) := by decide +kernel
theorem dX3_writeTo_33 : decode cX3_writeTo 33 = .ok (.bipush 6, 2) := by decide +kernel
theorem dX3_writeTo_35 : decode cX3_writeTo 35 = .ok (.iadd, 1) := by decide +kernel
theorem dX3_writeTo_36 : decode cX3_writeTo 36 = .ok (.bipush 6, 2) := by decide +kernel
theorem dX3_writeTo_38 : decode cX3_writeTo 38 = .ok (.invokestatic 43, 3) := by decide +kernel
theorem dX3_writeTo_41 : decode cX3_writeTo 41 = .ok (.aload_n 0, 1) := by decide +kernel
theorem dX3_writeTo_42 : decode cX3_writeTo 42 = .ok (.getfield 18, 3) := by decide +kernel
theorem dX3_writeTo_45 : decode cX3_writeTo 45 = .ok (.iconst 0, 1) := by decide +kernel
theorem dX3_writeTo_46 : decode cX3_writeTo 46 = .ok (.aload_n 1, 1) := by decide +kernel
theorem dX3_writeTo_47 : decode cX3_writeTo 47 = .ok (.iload_n 2, 1) := by decide +kernel
theorem dX3_writeTo_48 : decode cX3_writeTo 48 = .ok (.bipush 12, 2) := by decide +kernel
theorem dX3_writeTo_50 : decode cX3_writeTo 50 = .ok (.iadd, 1) := by decide +kernel
theorem dX3_writeTo_51 : decode cX3_writeTo 51 = .ok (.bipush 6, 2) := by decide +kernel
theorem dX3_writeTo_53 : decode cX3_writeTo 53 = .ok (.invokestatic 43, 3) := by decide +kernel
theorem dX3_writeTo_56 : decode cX3_writeTo 56 = .ok (.aload_n 0, 1) := by decide +kernel
theorem dX3_writeTo_57 : decode cX3_writeTo 57 = .ok (.getfield 21, 3) := by decide +kernel
theorem dX3_writeTo_60 : decode cX3_writeTo 60 = .ok (.iconst 0, 1) := by decide +kernel
theorem dX3_writeTo_61 : decode cX3_writeTo 61 = .ok (.aload_n 1, 1) := by decide +kernel
theorem dX3_writeTo_62 : decode cX3_writeTo 62 = .ok (.iload_n 2, 1) := by decide +kernel
theorem dX3_writeTo_63 : decode cX3_writeTo 63 = .ok (.bipush 18, 2) := by decide +kernel
theorem dX3_writeTo_65 : decode cX3_writeTo 65 = .ok (.iadd, 1) := by decide +kernel
theorem dX3_writeTo_66 : decode cX3_writeTo 66 = .ok (.iconst 5, 1) := by decide +kernel
theorem dX3_writeTo_67 : decode cX3_writeTo 67 = .ok (.invokestatic 43, 3) := by decide +kernel
theorem dX3_writeTo_70 : decode cX3_writeTo 70 = .ok (.iload_n 2, 1) := by decide +kernel
theorem dX3_writeTo_71 : decode cX3_writeTo 71 = .ok (.bipush 18, 2) := by decide +kernel
theorem dX3_writeTo_73 : decode cX3_writeTo 73 = .ok (.iadd, 1) := by decide +kernel
theorem dX3_writeTo_74 : decode cX3_writeTo 74 = .ok (.iconst 5, 1) := by decide +kernel
theorem dX3_writeTo_75 : decode cX3_writeTo 75 = .ok (.iadd, 1) := by decide +kernel
theorem dX3_writeTo_76 : decode cX3_writeTo 76 = .ok (.istore_n 3, 1) := by decide +kernel
theorem dX3_writeTo_77 : decode cX3_writeTo 77 = .ok (.aload_n 1, 1) := by decide +kernel
theorem dX3_writeTo_78 : decode cX3_writeTo 78 = .ok (.iload_n 3, 1) := by decide +kernel
theorem dX3_writeTo_79 : decode cX3_writeTo 79 = .ok (.aload_n 0, 1) := by decide +kernel
theorem dX3_writeTo_80 : decode cX3_writeTo 80 = .ok (.getfield 30, 3) := by decide +kernel
theorem dX3_writeTo_83 : decode cX3_writeTo 83 = .ok (.iastore, 1) := by decide +kernel
theorem dX3_writeTo_84 : decode cX3_writeTo 84 = .ok (.aload_n 1, 1) := by decide +kernel
theorem dX3_writeTo_85 : decode cX3_writeTo 85 = .ok (.iload_n 3, 1) := by decide +kernel
theorem dX3_writeTo_86 : decode cX3_writeTo 86 = .ok (.iconst 1, 1) := by decide +kernel
theorem dX3_writeTo_87 : decode cX3_writeTo 87 = .ok (.iadd, 1) := by decide +kernel
theorem dX3_writeTo_88 : decode cX3_writeTo 88 = .ok (.aload_n 0, 1) := by decide +kernel
theorem dX3_writeTo_89 : decode cX3_writeTo 89 = .ok (.getfield 34, 3) := by decide +kernel
theorem dX3_writeTo_92 : decode cX3_writeTo 92 = .ok (.iastore, 1) := by decide +kernel
theorem dX3_writeTo_93 : decode cX3_writeTo 93 = .ok (.aload_n 1, 1) := by decide +kernel
theorem dX3_writeTo_94 : decode cX3_writeTo 94 = .ok (.iload_n 3, 1) := by decide +kernel
theorem dX3_writeTo_95 : decode cX3_writeTo 95 = .ok (.iconst 2, 1) := by decide +kernel
theorem dX3_writeTo_96 : decode cX3_writeTo 96 = .ok (.iadd, 1) := by decide +kernel
theorem dX3_writeTo_97 : decode cX3_writeTo 97 = .ok (.aload_n 0, 1) := by decide +kernel
theorem dX3_writeTo_98 : decode cX3_writeTo 98 = .ok (.getfield 37, 3) := by decide +kernel
theorem dX3_writeTo_101 : decode cX3_writeTo 101 = .ok (.iastore, 1) := by decide +kernel
theorem dX3_writeTo_102 : decode cX3_writeTo 102 = .ok (.aload_n 1, 1) := by decide +kernel
theorem dX3_writeTo_103 : decode cX3_writeTo 103 = .ok (.iload_n 3, 1) := by decide +kernel
theorem dX3_writeTo_104 : decode cX3_writeTo 104 = .ok (.iconst 3, 1) := by decide +kernel
theorem dX3_writeTo_105 : decode cX3_writeTo 105 = .ok (.iadd, 1) := by decide +kernel
theorem dX3_writeTo_106 : decode cX3_writeTo 106 = .ok (.aload_n 0, 1) := by decide +kernel
theorem dX3_writeTo_107 : decode cX3_writeTo 107 = .ok (.getfield 40, 3) := by decide +kernel
theorem dX3_writeTo_110 : decode cX3_writeTo 110 = .ok (.iastore, 1) := by decide +kernel
theorem dX3_writeTo_111 : decode cX3_writeTo 111 = .ok (.return_, 1) := by decide +kernel
theorem dX3_readFrom_0 : decode cX3_readFrom 0 = .ok (.iload_n 2, 1) := by decide +kernel
theorem dX3_readFrom_1 : decode cX3_readFrom 1 = .ok (.ifCond .lt 12, 3) := by decide +kernel
theorem dX3_readFrom_4 : decode cX3_readFrom 4 = .ok (.iload_n 2, 1) := by decide +kernel
theorem dX3_readFrom_5 : decode cX3_readFrom 5 = .ok (.aload_n 1, 1) := by decide +kernel
theorem dX3_readFrom_6 : decode cX3_readFrom 6 = .ok (.arraylength, 1) := by decide +kernel
theorem dX3_readFrom_7 : decode cX3_readFrom 7 = .ok (.bipush 27, 2) := by decide +kernel
theorem dX3_readFrom_9 : decode cX3_readFrom 9 = .ok (.isub, 1) := by decide +kernel
theorem dX3_readFrom_10 : decode cX3_readFrom 10 = .ok (.if_icmp .le 4, 3) := by decide +kernel
theorem dX3_readFrom_13 : decode cX3_readFrom 13 = .ok (.return_, 1) := by decide +kernel
theorem dX3_readFrom_14 : decode cX3_readFrom 14 = .ok (.aload_n 1, 1) := by decide +kernel
theorem dX3_readFrom_15 : decode cX3_readFrom 15 = .ok (.iload_n 2, 1) := by decide +kernel
theorem dX3_readFrom_16 : decode cX3_readFrom 16 = .ok (.aload_n 0, 1) := by decide +kernel
theorem dX3_readFrom_17 : decode cX3_readFrom 17 = .ok (.getfield 9, 3) := by decide +kernel
theorem dX3_readFrom_20 : decode cX3_readFrom 20 = .ok (.iconst 0, 1) := by decide +kernel
theorem dX3_readFrom_21 : decode cX3_readFrom 21 = .ok (.bipush 6, 2) := by decide +kernel
theorem dX3_readFrom_23 : decode cX3_readFrom 23 = .ok (.invokestatic 43, 3) := by decide +kernel
theorem dX3_readFrom_26 : decode cX3_readFrom 26 = .ok (.aload_n 1, 1) := by decide +kernel
theorem dX3_readFrom_27 : decode cX3_readFrom 27 = .ok (.iload_n 2, 1) := by decide +kernel
theorem dX3_readFrom_28 : decode cX3_readFrom 28 = .ok (.bipush 6, 2) := by decide +kernel
theorem dX3_readFrom_30 : decode cX3_readFrom 30 = .ok (.iadd, 1) := by decide +kernel
theorem dX3_readFrom_31 : decode cX3_readFrom 31 = .ok (.aload_n 0, 1) := by decide +kernel
theorem dX3_readFrom_32 : decode cX3_readFrom 32 = .ok (.getfield 15, 3) := by decide +kernel
theorem dX3_readFrom_35 : decode cX3_readFrom 35 = .ok (.iconst 0, 1) := by decide +kernel
theorem dX3_readFrom_36 : decode cX3_readFrom 36 = .ok (.bipush 6, 2) := by decide +kernel
theorem dX3_readFrom_38 : decode cX3_readFrom 38 = .ok (.invokestatic 43, 3) := by decide +kernel
theorem dX3_readFrom_41 : decode cX3_readFrom 41 = .ok (.aload_n 1, 1) := by decide +kernel
theorem dX3_readFrom_42 : decode cX3_readFrom 42 = .ok (.iload_n 2, 1) := by decide +kernel
theorem dX3_readFrom_43 : decode cX3_readFrom 43 = .ok (.bipush 12, 2) := by decide +kernel
theorem dX3_readFrom_45 : decode cX3_readFrom 45 = .ok (.iadd, 1) := by decide +kernel
theorem dX3_readFrom_46 : decode cX3_readFrom 46 = .ok (.aload_n 0, 1) := by decide +kernel
theorem dX3_readFrom_47 : decode cX3_readFrom 47 = .ok (.getfield 18, 3) := by decide +kernel
theorem dX3_readFrom_50 : decode cX3_readFrom 50 = .ok (.iconst 0, 1) := by decide +kernel
theorem dX3_readFrom_51 : decode cX3_readFrom 51 = .ok (.bipush 6, 2) := by decide +kernel
theorem dX3_readFrom_53 : decode cX3_readFrom 53 = .ok (.invokestatic 43, 3) := by decide +kernel
theorem dX3_readFrom_56 : decode cX3_readFrom 56 = .ok (.aload_n 1, 1) := by decide +kernel
theorem dX3_readFrom_57 : decode cX3_readFrom 57 = .ok (.iload_n 2, 1) := by decide +kernel
theorem dX3_readFrom_58 : decode cX3_readFrom 58 = .ok (.bipush 18, 2) := by decide +kernel
theorem dX3_readFrom_60 : decode cX3_readFrom 60 = .ok (.iadd, 1) := by decide +kernel
theorem dX3_readFrom_61 : decode cX3_readFrom 61 = .ok (.aload_n 0, 1) := by decide +kernel
theorem dX3_readFrom_62 : decode cX3_readFrom 62 = .ok (.getfield 21, 3) := by decide +kernel
theorem dX3_readFrom_65 : decode cX3_readFrom 65 = .ok (.iconst 0, 1) := by decide +kernel
theorem dX3_readFrom_66 : decode cX3_readFrom 66 = .ok (.iconst 5, 1) := by decide +kernel
theorem dX3_readFrom_67 : decode cX3_readFrom 67 = .ok (.invokestatic 43, 3) := by decide +kernel
theorem dX3_readFrom_70 : decode cX3_readFrom 70 = .ok (.iload_n 2, 1) := by decide +kernel
theorem dX3_readFrom_71 : decode cX3_readFrom 71 = .ok (.bipush 18, 2) := by decide +kernel
theorem dX3_readFrom_73 : decode cX3_readFrom 73 = .ok (.iadd, 1) := by decide +kernel
theorem dX3_readFrom_74 : decode cX3_readFrom 74 = .ok (.iconst 5, 1) := by decide +kernel
theorem dX3_readFrom_75 : decode cX3_readFrom 75 = .ok (.iadd, 1) := by decide +kernel
theorem dX3_readFrom_76 : decode cX3_readFrom 76 = .ok (.istore_n 3, 1) := by decide +kernel
theorem dX3_readFrom_77 : decode cX3_readFrom 77 = .ok (.aload_n 0, 1) := by decide +kernel
theorem dX3_readFrom_78 : decode cX3_readFrom 78 = .ok (.aload_n 1, 1) := by decide +kernel
theorem dX3_readFrom_79 : decode cX3_readFrom 79 = .ok (.iload_n 3, 1) := by decide +kernel
theorem dX3_readFrom_80 : decode cX3_readFrom 80 = .ok (.iaload, 1) := by decide +kernel
theorem dX3_readFrom_81 : decode cX3_readFrom 81 = .ok (.putfield 30, 3) := by decide +kernel
theorem dX3_readFrom_84 : decode cX3_readFrom 84 = .ok (.aload_n 0, 1) := by decide +kernel
theorem dX3_readFrom_85 : decode cX3_readFrom 85 = .ok (.aload_n 1, 1) := by decide +kernel
theorem dX3_readFrom_86 : decode cX3_readFrom 86 = .ok (.iload_n 3, 1) := by decide +kernel
theorem dX3_readFrom_87 : decode cX3_readFrom 87 = .ok (.iconst 1, 1) := by decide +kernel
theorem dX3_readFrom_88 : decode cX3_readFrom 88 = .ok (.iadd, 1) := by decide +kernel
theorem dX3_readFrom_89 : decode cX3_readFrom 89 = .ok (.iaload, 1) := by decide +kernel
theorem dX3_readFrom_90 : decode cX3_readFrom 90 = .ok (.putfield 34, 3) := by decide +kernel
theorem dX3_readFrom_93 : decode cX3_readFrom 93 = .ok (.aload_n 0, 1) := by decide +kernel
theorem dX3_readFrom_94 : decode cX3_readFrom 94 = .ok (.aload_n 1, 1) := by decide +kernel
theorem dX3_readFrom_95 : decode cX3_readFrom 95 = .ok (.iload_n 3, 1) := by decide +kernel
theorem dX3_readFrom_96 : decode cX3_readFrom 96 = .ok (.iconst 2, 1) := by decide +kernel
theorem dX3_readFrom_97 : decode cX3_readFrom 97 = .ok (.iadd, 1) := by decide +kernel
theorem dX3_readFrom_98 : decode cX3_readFrom 98 = .ok (.iaload, 1) := by decide +kernel
theorem dX3_readFrom_99 : decode cX3_readFrom 99 = .ok (.putfield 37, 3) := by decide +kernel
theorem dX3_readFrom_102 : decode cX3_readFrom 102 = .ok (.aload_n 0, 1) := by decide +kernel
theorem dX3_readFrom_103 : decode cX3_readFrom 103 = .ok (.aload_n 1, 1) := by decide +kernel
theorem dX3_readFrom_104 : decode cX3_readFrom 104 = .ok (.iload_n 3, 1) := by decide +kernel
theorem dX3_readFrom_105 : decode cX3_readFrom 105 = .ok (.iconst 3, 1) := by decide +kernel
theorem dX3_readFrom_106 : decode cX3_readFrom 106 = .ok (.iadd, 1) := by decide +kernel
theorem dX3_readFrom_107 : decode cX3_readFrom 107 = .ok (.iaload, 1) := by decide +kernel
theorem dX3_readFrom_108 : decode cX3_readFrom 108 = .ok (.putfield 40, 3) := by decide +kernel
theorem dX3_readFrom_111 : decode cX3_readFrom 111 = .ok (.return_, 1) := by decide +kernel
theorem dX3_wayOf_0 : decode cX3_wayOf 0 = .ok (.iconst 2, 1) := by decide +kernel
theorem dX3_wayOf_1 : decode cX3_wayOf 1 = .ok (.iload_n 1, 1) := by decide +kernel
theorem dX3_wayOf_2 : decode cX3_wayOf 2 = .ok (.imul, 1) := by decide +kernel
theorem dX3_wayOf_3 : decode cX3_wayOf 3 = .ok (.aload_n 0, 1) := by decide +kernel
theorem dX3_wayOf_4 : decode cX3_wayOf 4 = .ok (.getfield 30, 3) := by decide +kernel
theorem dX3_wayOf_7 : decode cX3_wayOf 7 = .ok (.iload_n 1, 1) := by decide +kernel
theorem dX3_wayOf_8 : decode cX3_wayOf 8 = .ok (.invokestatic 49, 3) := by decide +kernel
theorem dX3_wayOf_11 : decode cX3_wayOf 11 = .ok (.iadd, 1) := by decide +kernel
theorem dX3_wayOf_12 : decode cX3_wayOf 12 = .ok (.ireturn, 1) := by decide +kernel
theorem dX3_placeOf_0 : decode cX3_placeOf 0 = .ok (.iconst 0, 1) := by decide +kernel
theorem dX3_placeOf_1 : decode cX3_placeOf 1 = .ok (.istore_n 2, 1) := by decide +kernel
theorem dX3_placeOf_2 : decode cX3_placeOf 2 = .ok (.iload_n 2, 1) := by decide +kernel
theorem dX3_placeOf_3 : decode cX3_placeOf 3 = .ok (.aload_n 0, 1) := by decide +kernel
theorem dX3_placeOf_4 : decode cX3_placeOf 4 = .ok (.getfield 34, 3) := by decide +kernel
theorem dX3_placeOf_7 : decode cX3_placeOf 7 = .ok (.if_icmp .ge 27, 3) := by decide +kernel
theorem dX3_placeOf_10 : decode cX3_placeOf 10 = .ok (.iload_n 2, 1) := by decide +kernel
theorem dX3_placeOf_11 : decode cX3_placeOf 11 = .ok (.bipush 6, 2) := by decide +kernel
theorem dX3_placeOf_13 : decode cX3_placeOf 13 = .ok (.if_icmp .ge 21, 3) := by decide +kernel
theorem dX3_placeOf_16 : decode cX3_placeOf 16 = .ok (.aload_n 0, 1) := by decide +kernel
theorem dX3_placeOf_17 : decode cX3_placeOf 17 = .ok (.getfield 9, 3) := by decide +kernel
theorem dX3_placeOf_20 : decode cX3_placeOf 20 = .ok (.iload_n 2, 1) := by decide +kernel
theorem dX3_placeOf_21 : decode cX3_placeOf 21 = .ok (.iaload, 1) := by decide +kernel
theorem dX3_placeOf_22 : decode cX3_placeOf 22 = .ok (.iload_n 1, 1) := by decide +kernel
theorem dX3_placeOf_23 : decode cX3_placeOf 23 = .ok (.if_icmp .ne 5, 3) := by decide +kernel
theorem dX3_placeOf_26 : decode cX3_placeOf 26 = .ok (.iload_n 2, 1) := by decide +kernel
theorem dX3_placeOf_27 : decode cX3_placeOf 27 = .ok (.ireturn, 1) := by decide +kernel
theorem dX3_placeOf_28 : decode cX3_placeOf 28 = .ok (.iinc 2 1, 3) := by decide +kernel
theorem dX3_placeOf_31 : decode cX3_placeOf 31 = .ok (.goto (-29), 3) := by decide +kernel
theorem dX3_placeOf_34 : decode cX3_placeOf 34 = .ok (.iconst (-1), 1) := by decide +kernel
theorem dX3_placeOf_35 : decode cX3_placeOf 35 = .ok (.ireturn, 1) := by decide +kernel
theorem dX3_rowBits_0 : decode cX3_rowBits 0 = .ok (.iconst 0, 1) := by decide +kernel
theorem dX3_rowBits_1 : decode cX3_rowBits 1 = .ok (.istore_n 1, 1) := by decide +kernel
theorem dX3_rowBits_2 : decode cX3_rowBits 2 = .ok (.iconst 0, 1) := by decide +kernel
theorem dX3_rowBits_3 : decode cX3_rowBits 3 = .ok (.istore_n 2, 1) := by decide +kernel
theorem dX3_rowBits_4 : decode cX3_rowBits 4 = .ok (.iload_n 2, 1) := by decide +kernel
theorem dX3_rowBits_5 : decode cX3_rowBits 5 = .ok (.aload_n 0, 1) := by decide +kernel
theorem dX3_rowBits_6 : decode cX3_rowBits 6 = .ok (.getfield 34, 3) := by decide +kernel
theorem dX3_rowBits_9 : decode cX3_rowBits 9 = .ok (.if_icmp .ge 26, 3) := by decide +kernel
theorem dX3_rowBits_12 : decode cX3_rowBits 12 = .ok (.iload_n 2, 1) := by decide +kernel
theorem dX3_rowBits_13 : decode cX3_rowBits 13 = .ok (.bipush 6, 2) := by decide +kernel
theorem dX3_rowBits_15 : decode cX3_rowBits 15 = .ok (.if_icmp .ge 20, 3) := by decide +kernel
theorem dX3_rowBits_18 : decode cX3_rowBits 18 = .ok (.iload_n 1, 1) := by decide +kernel
theorem dX3_rowBits_19 : decode cX3_rowBits 19 = .ok (.iconst 1, 1) := by decide +kernel
theorem dX3_rowBits_20 : decode cX3_rowBits 20 = .ok (.aload_n 0, 1) := by decide +kernel
theorem dX3_rowBits_21 : decode cX3_rowBits 21 = .ok (.getfield 9, 3) := by decide +kernel
theorem dX3_rowBits_24 : decode cX3_rowBits 24 = .ok (.iload_n 2, 1) := by decide +kernel
theorem dX3_rowBits_25 : decode cX3_rowBits 25 = .ok (.iaload, 1) := by decide +kernel
theorem dX3_rowBits_26 : decode cX3_rowBits 26 = .ok (.ishl, 1) := by decide +kernel
theorem dX3_rowBits_27 : decode cX3_rowBits 27 = .ok (.ior, 1) := by decide +kernel
theorem dX3_rowBits_28 : decode cX3_rowBits 28 = .ok (.istore_n 1, 1) := by decide +kernel
theorem dX3_rowBits_29 : decode cX3_rowBits 29 = .ok (.iinc 2 1, 3) := by decide +kernel
theorem dX3_rowBits_32 : decode cX3_rowBits 32 = .ok (.goto (-28), 3) := by decide +kernel
theorem dX3_rowBits_35 : decode cX3_rowBits 35 = .ok (.iload_n 1, 1) := by decide +kernel
theorem dX3_rowBits_36 : decode cX3_rowBits 36 = .ok (.ireturn, 1) := by decide +kernel
theorem dX3_outBits_0 : decode cX3_outBits 0 = .ok (.iconst 0, 1) := by decide +kernel
theorem dX3_outBits_1 : decode cX3_outBits 1 = .ok (.istore_n 1, 1) := by decide +kernel
theorem dX3_outBits_2 : decode cX3_outBits 2 = .ok (.iconst 0, 1) := by decide +kernel
theorem dX3_outBits_3 : decode cX3_outBits 3 = .ok (.istore_n 2, 1) := by decide +kernel
theorem dX3_outBits_4 : decode cX3_outBits 4 = .ok (.iload_n 2, 1) := by decide +kernel
theorem dX3_outBits_5 : decode cX3_outBits 5 = .ok (.iconst 5, 1) := by decide +kernel
theorem dX3_outBits_6 : decode cX3_outBits 6 = .ok (.if_icmp .ge 25, 3) := by decide +kernel
theorem dX3_outBits_9 : decode cX3_outBits 9 = .ok (.aload_n 0, 1) := by decide +kernel
theorem dX3_outBits_10 : decode cX3_outBits 10 = .ok (.getfield 21, 3) := by decide +kernel
theorem dX3_outBits_13 : decode cX3_outBits 13 = .ok (.iload_n 2, 1) := by decide +kernel
theorem dX3_outBits_14 : decode cX3_outBits 14 = .ok (.iaload, 1) := by decide +kernel
theorem dX3_outBits_15 : decode cX3_outBits 15 = .ok (.iconst (-1), 1) := by decide +kernel
theorem dX3_outBits_16 : decode cX3_outBits 16 = .ok (.if_icmp .eq 9, 3) := by decide +kernel
theorem dX3_outBits_19 : decode cX3_outBits 19 = .ok (.iload_n 1, 1) := by decide +kernel
theorem dX3_outBits_20 : decode cX3_outBits 20 = .ok (.iconst 1, 1) := by decide +kernel
theorem dX3_outBits_21 : decode cX3_outBits 21 = .ok (.iload_n 2, 1) := by decide +kernel
theorem dX3_outBits_22 : decode cX3_outBits 22 = .ok (.ishl, 1) := by decide +kernel
theorem dX3_outBits_23 : decode cX3_outBits 23 = .ok (.ior, 1) := by decide +kernel
theorem dX3_outBits_24 : decode cX3_outBits 24 = .ok (.istore_n 1, 1) := by decide +kernel
theorem dX3_outBits_25 : decode cX3_outBits 25 = .ok (.iinc 2 1, 3) := by decide +kernel
theorem dX3_outBits_28 : decode cX3_outBits 28 = .ok (.goto (-24), 3) := by decide +kernel
theorem dX3_outBits_31 : decode cX3_outBits 31 = .ok (.iload_n 1, 1) := by decide +kernel
theorem dX3_outBits_32 : decode cX3_outBits 32 = .ok (.ireturn, 1) := by decide +kernel
theorem dX3_longNow_0 : decode cX3_longNow 0 = .ok (.iconst 0, 1) := by decide +kernel
theorem dX3_longNow_1 : decode cX3_longNow 1 = .ok (.istore_n 2, 1) := by decide +kernel
theorem dX3_longNow_2 : decode cX3_longNow 2 = .ok (.iconst 0, 1) := by decide +kernel
theorem dX3_longNow_3 : decode cX3_longNow 3 = .ok (.istore_n 3, 1) := by decide +kernel
theorem dX3_longNow_4 : decode cX3_longNow 4 = .ok (.iload_n 3, 1) := by decide +kernel
theorem dX3_longNow_5 : decode cX3_longNow 5 = .ok (.aload_n 0, 1) := by decide +kernel
theorem dX3_longNow_6 : decode cX3_longNow 6 = .ok (.getfield 34, 3) := by decide +kernel
theorem dX3_longNow_9 : decode cX3_longNow 9 = .ok (.if_icmp .ge 31, 3) := by decide +kernel
theorem dX3_longNow_12 : decode cX3_longNow 12 = .ok (.iload_n 3, 1) := by decide +kernel
theorem dX3_longNow_13 : decode cX3_longNow 13 = .ok (.bipush 6, 2) := by decide +kernel
theorem dX3_longNow_15 : decode cX3_longNow 15 = .ok (.if_icmp .ge 25, 3) := by decide +kernel
theorem dX3_longNow_18 : decode cX3_longNow 18 = .ok (.iload_n 2, 1) := by decide +kernel
theorem dX3_longNow_19 : decode cX3_longNow 19 = .ok (.aload_n 1, 1) := by decide +kernel
theorem dX3_longNow_20 : decode cX3_longNow 20 = .ok (.getfield 53, 3) := by decide +kernel
theorem dX3_longNow_23 : decode cX3_longNow 23 = .ok (.aload_n 0, 1) := by decide +kernel
theorem dX3_longNow_24 : decode cX3_longNow 24 = .ok (.getfield 9, 3) := by decide +kernel
theorem dX3_longNow_27 : decode cX3_longNow 27 = .ok (.iload_n 3, 1) := by decide +kernel
theorem dX3_longNow_28 : decode cX3_longNow 28 = .ok (.iaload, 1) := by decide +kernel
theorem dX3_longNow_29 : decode cX3_longNow 29 = .ok (.invokestatic 58, 3) := by decide +kernel
theorem dX3_longNow_32 : decode cX3_longNow 32 = .ok (.iadd, 1) := by decide +kernel
theorem dX3_longNow_33 : decode cX3_longNow 33 = .ok (.istore_n 2, 1) := by decide +kernel
theorem dX3_longNow_34 : decode cX3_longNow 34 = .ok (.iinc 3 1, 3) := by decide +kernel
theorem dX3_longNow_37 : decode cX3_longNow 37 = .ok (.goto (-33), 3) := by decide +kernel
theorem dX3_longNow_40 : decode cX3_longNow 40 = .ok (.iload_n 2, 1) := by decide +kernel
theorem dX3_longNow_41 : decode cX3_longNow 41 = .ok (.ireturn, 1) := by decide +kernel
theorem dX3_allBursts_0 : decode cX3_allBursts 0 = .ok (.iconst 0, 1) := by decide +kernel
theorem dX3_allBursts_1 : decode cX3_allBursts 1 = .ok (.istore_n 1, 1) := by decide +kernel
theorem dX3_allBursts_2 : decode cX3_allBursts 2 = .ok (.iconst 0, 1) := by decide +kernel
theorem dX3_allBursts_3 : decode cX3_allBursts 3 = .ok (.istore_n 2, 1) := by decide +kernel
theorem dX3_allBursts_4 : decode cX3_allBursts 4 = .ok (.iload_n 2, 1) := by decide +kernel
theorem dX3_allBursts_5 : decode cX3_allBursts 5 = .ok (.bipush 6, 2) := by decide +kernel
theorem dX3_allBursts_7 : decode cX3_allBursts 7 = .ok (.if_icmp .ge 18, 3) := by decide +kernel
theorem dX3_allBursts_10 : decode cX3_allBursts 10 = .ok (.iload_n 1, 1) := by decide +kernel
theorem dX3_allBursts_11 : decode cX3_allBursts 11 = .ok (.aload_n 0, 1) := by decide +kernel
theorem dX3_allBursts_12 : decode cX3_allBursts 12 = .ok (.getfield 18, 3) := by decide +kernel
theorem dX3_allBursts_15 : decode cX3_allBursts 15 = .ok (.iload_n 2, 1) := by decide +kernel
theorem dX3_allBursts_16 : decode cX3_allBursts 16 = .ok (.iaload, 1) := by decide +kernel
theorem dX3_allBursts_17 : decode cX3_allBursts 17 = .ok (.iadd, 1) := by decide +kernel
theorem dX3_allBursts_18 : decode cX3_allBursts 18 = .ok (.istore_n 1, 1) := by decide +kernel
theorem dX3_allBursts_19 : decode cX3_allBursts 19 = .ok (.iinc 2 1, 3) := by decide +kernel
theorem dX3_allBursts_22 : decode cX3_allBursts 22 = .ok (.goto (-18), 3) := by decide +kernel
theorem dX3_allBursts_25 : decode cX3_allBursts 25 = .ok (.iload_n 1, 1) := by decide +kernel
theorem dX3_allBursts_26 : decode cX3_allBursts 26 = .ok (.ireturn, 1) := by decide +kernel
theorem dX3_canLay_0 : decode cX3_canLay 0 = .ok (.aload_n 0, 1) := by decide +kernel
theorem dX3_canLay_1 : decode cX3_canLay 1 = .ok (.iload_n 2, 1) := by decide +kernel
theorem dX3_canLay_2 : decode cX3_canLay 2 = .ok (.iconst 1, 1) := by decide +kernel
theorem dX3_canLay_3 : decode cX3_canLay 3 = .ok (.ishr, 1) := by decide +kernel
theorem dX3_canLay_4 : decode cX3_canLay 4 = .ok (.invokevirtual 62, 3) := by decide +kernel
theorem dX3_canLay_7 : decode cX3_canLay 7 = .ok (.iconst (-1), 1) := by decide +kernel
theorem dX3_canLay_8 : decode cX3_canLay 8 = .ok (.if_icmp .ne 12, 3) := by decide +kernel
theorem dX3_canLay_11 : decode cX3_canLay 11 = .ok (.aload_n 0, 1) := by decide +kernel
theorem dX3_canLay_12 : decode cX3_canLay 12 = .ok (.getfield 34, 3) := by decide +kernel
theorem dX3_canLay_15 : decode cX3_canLay 15 = .ok (.bipush 6, 2) := by decide +kernel
theorem dX3_canLay_17 : decode cX3_canLay 17 = .ok (.if_icmp .lt 5, 3) := by decide +kernel
theorem dX3_canLay_20 : decode cX3_canLay 20 = .ok (.iconst 0, 1) := by decide +kernel
theorem dX3_canLay_21 : decode cX3_canLay 21 = .ok (.ireturn, 1) := by decide +kernel
theorem dX3_canLay_22 : decode cX3_canLay 22 = .ok (.aload_n 0, 1) := by decide +kernel
theorem dX3_canLay_23 : decode cX3_canLay 23 = .ok (.getfield 34, 3) := by decide +kernel
theorem dX3_canLay_26 : decode cX3_canLay 26 = .ok (.ifCond .eq 28, 3) := by decide +kernel
theorem dX3_canLay_29 : decode cX3_canLay 29 = .ok (.aload_n 1, 1) := by decide +kernel
theorem dX3_canLay_30 : decode cX3_canLay 30 = .ok (.aload_n 0, 1) := by decide +kernel
theorem dX3_canLay_31 : decode cX3_canLay 31 = .ok (.aload_n 0, 1) := by decide +kernel
theorem dX3_canLay_32 : decode cX3_canLay 32 = .ok (.getfield 9, 3) := by decide +kernel
theorem dX3_canLay_35 : decode cX3_canLay 35 = .ok (.aload_n 0, 1) := by decide +kernel
theorem dX3_canLay_36 : decode cX3_canLay 36 = .ok (.getfield 34, 3) := by decide +kernel
theorem dX3_canLay_39 : decode cX3_canLay 39 = .ok (.iconst 1, 1) := by decide +kernel
theorem dX3_canLay_40 : decode cX3_canLay 40 = .ok (.isub, 1) := by decide +kernel
theorem dX3_canLay_41 : decode cX3_canLay 41 = .ok (.invokestatic 58, 3) := by decide +kernel
theorem dX3_canLay_44 : decode cX3_canLay 44 = .ok (.invokevirtual 66, 3) := by decide +kernel
theorem dX3_canLay_47 : decode cX3_canLay 47 = .ok (.iload_n 2, 1) := by decide +kernel
theorem dX3_canLay_48 : decode cX3_canLay 48 = .ok (.invokevirtual 69, 3) := by decide +kernel
theorem dX3_canLay_51 : decode cX3_canLay 51 = .ok (.ifCond .eq 7, 3) := by decide +kernel
theorem dX3_canLay_54 : decode cX3_canLay 54 = .ok (.iconst 1, 1) := by decide +kernel
theorem dX3_canLay_55 : decode cX3_canLay 55 = .ok (.goto 4, 3) := by decide +kernel
theorem dX3_canLay_58 : decode cX3_canLay 58 = .ok (.iconst 0, 1) := by decide +kernel
theorem dX3_canLay_59 : decode cX3_canLay 59 = .ok (.ireturn, 1) := by decide +kernel
theorem dX3_turnRound_0 : decode cX3_turnRound 0 = .ok (.aload_n 0, 1) := by decide +kernel
theorem dX3_turnRound_1 : decode cX3_turnRound 1 = .ok (.iload_n 1, 1) := by decide +kernel
theorem dX3_turnRound_2 : decode cX3_turnRound 2 = .ok (.invokevirtual 62, 3) := by decide +kernel
theorem dX3_turnRound_5 : decode cX3_turnRound 5 = .ok (.iconst (-1), 1) := by decide +kernel
theorem dX3_turnRound_6 : decode cX3_turnRound 6 = .ok (.if_icmp .eq 5, 3) := by decide +kernel
theorem dX3_turnRound_9 : decode cX3_turnRound 9 = .ok (.iconst 0, 1) := by decide +kernel
theorem dX3_turnRound_10 : decode cX3_turnRound 10 = .ok (.ireturn, 1) := by decide +kernel
theorem dX3_turnRound_11 : decode cX3_turnRound 11 = .ok (.aload_n 0, 1) := by decide +kernel
theorem dX3_turnRound_12 : decode cX3_turnRound 12 = .ok (.dup, 1) := by decide +kernel
theorem dX3_turnRound_13 : decode cX3_turnRound 13 = .ok (.getfield 30, 3) := by decide +kernel
theorem dX3_turnRound_16 : decode cX3_turnRound 16 = .ok (.iconst 1, 1) := by decide +kernel
theorem dX3_turnRound_17 : decode cX3_turnRound 17 = .ok (.iload_n 1, 1) := by decide +kernel
theorem dX3_turnRound_18 : decode cX3_turnRound 18 = .ok (.ishl, 1) := by decide +kernel
theorem dX3_turnRound_19 : decode cX3_turnRound 19 = .ok (.ixor, 1) := by decide +kernel
theorem dX3_turnRound_20 : decode cX3_turnRound 20 = .ok (.putfield 30, 3) := by decide +kernel
theorem dX3_turnRound_23 : decode cX3_turnRound 23 = .ok (.iconst 1, 1) := by decide +kernel
theorem dX3_turnRound_24 : decode cX3_turnRound 24 = .ok (.ireturn, 1) := by decide +kernel
theorem dX3_layDown_0 : decode cX3_layDown 0 = .ok (.aload_n 0, 1) := by decide +kernel
theorem dX3_layDown_1 : decode cX3_layDown 1 = .ok (.aload_n 1, 1) := by decide +kernel
theorem dX3_layDown_2 : decode cX3_layDown 2 = .ok (.aload_n 0, 1) := by decide +kernel
theorem dX3_layDown_3 : decode cX3_layDown 3 = .ok (.iload_n 2, 1) := by decide +kernel
theorem dX3_layDown_4 : decode cX3_layDown 4 = .ok (.invokevirtual 66, 3) := by decide +kernel
theorem dX3_layDown_7 : decode cX3_layDown 7 = .ok (.invokevirtual 73, 3) := by decide +kernel
theorem dX3_layDown_10 : decode cX3_layDown 10 = .ok (.ifCond .ne 5, 3) := by decide +kernel
theorem dX3_layDown_13 : decode cX3_layDown 13 = .ok (.iconst 0, 1) := by decide +kernel
theorem dX3_layDown_14 : decode cX3_layDown 14 = .ok (.ireturn, 1) := by decide +kernel
theorem dX3_layDown_15 : decode cX3_layDown 15 = .ok (.aload_n 0, 1) := by decide +kernel
theorem dX3_layDown_16 : decode cX3_layDown 16 = .ok (.getfield 9, 3) := by decide +kernel
theorem dX3_layDown_19 : decode cX3_layDown 19 = .ok (.aload_n 0, 1) := by decide +kernel
theorem dX3_layDown_20 : decode cX3_layDown 20 = .ok (.getfield 34, 3) := by decide +kernel
theorem dX3_layDown_23 : decode cX3_layDown 23 = .ok (.iload_n 2, 1) := by decide +kernel
theorem dX3_layDown_24 : decode cX3_layDown 24 = .ok (.invokestatic 77, 3) := by decide +kernel
theorem dX3_layDown_27 : decode cX3_layDown 27 = .ok (.aload_n 0, 1) := by decide +kernel
theorem dX3_layDown_28 : decode cX3_layDown 28 = .ok (.dup, 1) := by decide +kernel
theorem dX3_layDown_29 : decode cX3_layDown 29 = .ok (.getfield 34, 3) := by decide +kernel
theorem dX3_layDown_32 : decode cX3_layDown 32 = .ok (.iconst 1, 1) := by decide +kernel
theorem dX3_layDown_33 : decode cX3_layDown 33 = .ok (.iadd, 1) := by decide +kernel
theorem dX3_layDown_34 : decode cX3_layDown 34 = .ok (.putfield 34, 3) := by decide +kernel
theorem dX3_layDown_37 : decode cX3_layDown 37 = .ok (.iconst 1, 1) := by decide +kernel
theorem dX3_layDown_38 : decode cX3_layDown 38 = .ok (.ireturn, 1) := by decide +kernel
theorem dX3_liftLast_0 : decode cX3_liftLast 0 = .ok (.aload_n 0, 1) := by decide +kernel
theorem dX3_liftLast_1 : decode cX3_liftLast 1 = .ok (.getfield 34, 3) := by decide +kernel
theorem dX3_liftLast_4 : decode cX3_liftLast 4 = .ok (.ifCond .ne 5, 3) := by decide +kernel
theorem dX3_liftLast_7 : decode cX3_liftLast 7 = .ok (.iconst 0, 1) := by decide +kernel
theorem dX3_liftLast_8 : decode cX3_liftLast 8 = .ok (.ireturn, 1) := by decide +kernel
theorem dX3_liftLast_9 : decode cX3_liftLast 9 = .ok (.aload_n 0, 1) := by decide +kernel
theorem dX3_liftLast_10 : decode cX3_liftLast 10 = .ok (.dup, 1) := by decide +kernel
theorem dX3_liftLast_11 : decode cX3_liftLast 11 = .ok (.getfield 34, 3) := by decide +kernel
theorem dX3_liftLast_14 : decode cX3_liftLast 14 = .ok (.iconst 1, 1) := by decide +kernel
theorem dX3_liftLast_15 : decode cX3_liftLast 15 = .ok (.isub, 1) := by decide +kernel
theorem dX3_liftLast_16 : decode cX3_liftLast 16 = .ok (.putfield 34, 3) := by decide +kernel
theorem dX3_liftLast_19 : decode cX3_liftLast 19 = .ok (.iconst 1, 1) := by decide +kernel
theorem dX3_liftLast_20 : decode cX3_liftLast 20 = .ok (.ireturn, 1) := by decide +kernel
theorem dX3_bendTo_0 : decode cX3_bendTo 0 = .ok (.aload_n 0, 1) := by decide +kernel
theorem dX3_bendTo_1 : decode cX3_bendTo 1 = .ok (.getfield 15, 3) := by decide +kernel
theorem dX3_bendTo_4 : decode cX3_bendTo 4 = .ok (.iload_n 1, 1) := by decide +kernel
theorem dX3_bendTo_5 : decode cX3_bendTo 5 = .ok (.invokestatic 58, 3) := by decide +kernel
theorem dX3_bendTo_8 : decode cX3_bendTo 8 = .ok (.iload_n 2, 1) := by decide +kernel
theorem dX3_bendTo_9 : decode cX3_bendTo 9 = .ok (.if_icmp .ne 5, 3) := by decide +kernel
theorem dX3_bendTo_12 : decode cX3_bendTo 12 = .ok (.iconst 0, 1) := by decide +kernel
theorem dX3_bendTo_13 : decode cX3_bendTo 13 = .ok (.ireturn, 1) := by decide +kernel
theorem dX3_bendTo_14 : decode cX3_bendTo 14 = .ok (.aload_n 0, 1) := by decide +kernel
theorem dX3_bendTo_15 : decode cX3_bendTo 15 = .ok (.getfield 15, 3) := by decide +kernel
theorem dX3_bendTo_18 : decode cX3_bendTo 18 = .ok (.iload_n 1, 1) := by decide +kernel
theorem dX3_bendTo_19 : decode cX3_bendTo 19 = .ok (.iload_n 2, 1) := by decide +kernel
theorem dX3_bendTo_20 : decode cX3_bendTo 20 = .ok (.invokestatic 77, 3) := by decide +kernel
theorem dX3_bendTo_23 : decode cX3_bendTo 23 = .ok (.iconst 1, 1) := by decide +kernel
theorem dX3_bendTo_24 : decode cX3_bendTo 24 = .ok (.ireturn, 1) := by decide +kernel
theorem dX3_burstOnce_0 : decode cX3_burstOnce 0 = .ok (.aload_n 0, 1) := by decide +kernel
theorem dX3_burstOnce_1 : decode cX3_burstOnce 1 = .ok (.getfield 18, 3) := by decide +kernel
theorem dX3_burstOnce_4 : decode cX3_burstOnce 4 = .ok (.iload_n 1, 1) := by decide +kernel
theorem dX3_burstOnce_5 : decode cX3_burstOnce 5 = .ok (.invokestatic 58, 3) := by decide +kernel
theorem dX3_burstOnce_8 : decode cX3_burstOnce 8 = .ok (.bipush 9, 2) := by decide +kernel
theorem dX3_burstOnce_10 : decode cX3_burstOnce 10 = .ok (.if_icmp .lt 5, 3) := by decide +kernel
theorem dX3_burstOnce_13 : decode cX3_burstOnce 13 = .ok (.iconst 0, 1) := by decide +kernel
theorem dX3_burstOnce_14 : decode cX3_burstOnce 14 = .ok (.ireturn, 1) := by decide +kernel
theorem dX3_burstOnce_15 : decode cX3_burstOnce 15 = .ok (.aload_n 0, 1) := by decide +kernel
theorem dX3_burstOnce_16 : decode cX3_burstOnce 16 = .ok (.getfield 18, 3) := by decide +kernel
theorem dX3_burstOnce_19 : decode cX3_burstOnce 19 = .ok (.iload_n 1, 1) := by decide +kernel
theorem dX3_burstOnce_20 : decode cX3_burstOnce 20 = .ok (.aload_n 0, 1) := by decide +kernel
theorem dX3_burstOnce_21 : decode cX3_burstOnce 21 = .ok (.getfield 18, 3) := by decide +kernel
theorem dX3_burstOnce_24 : decode cX3_burstOnce 24 = .ok (.iload_n 1, 1) := by decide +kernel
theorem dX3_burstOnce_25 : decode cX3_burstOnce 25 = .ok (.invokestatic 58, 3) := by decide +kernel
theorem dX3_burstOnce_28 : decode cX3_burstOnce 28 = .ok (.iconst 1, 1) := by decide +kernel
theorem dX3_burstOnce_29 : decode cX3_burstOnce 29 = .ok (.iadd, 1) := by decide +kernel
theorem dX3_burstOnce_30 : decode cX3_burstOnce 30 = .ok (.invokestatic 77, 3) := by decide +kernel
theorem dX3_burstOnce_33 : decode cX3_burstOnce 33 = .ok (.iconst 1, 1) := by decide +kernel
theorem dX3_burstOnce_34 : decode cX3_burstOnce 34 = .ok (.ireturn, 1) := by decide +kernel
theorem dX3_patchOnce_0 : decode cX3_patchOnce 0 = .ok (.aload_n 0, 1) := by decide +kernel
theorem dX3_patchOnce_1 : decode cX3_patchOnce 1 = .ok (.getfield 18, 3) := by decide +kernel
theorem dX3_patchOnce_4 : decode cX3_patchOnce 4 = .ok (.iload_n 1, 1) := by decide +kernel
theorem dX3_patchOnce_5 : decode cX3_patchOnce 5 = .ok (.invokestatic 58, 3) := by decide +kernel
theorem dX3_patchOnce_8 : decode cX3_patchOnce 8 = .ok (.ifCond .gt 5, 3) := by decide +kernel
theorem dX3_patchOnce_11 : decode cX3_patchOnce 11 = .ok (.iconst 0, 1) := by decide +kernel
theorem dX3_patchOnce_12 : decode cX3_patchOnce 12 = .ok (.ireturn, 1) := by decide +kernel
theorem dX3_patchOnce_13 : decode cX3_patchOnce 13 = .ok (.aload_n 0, 1) := by decide +kernel
theorem dX3_patchOnce_14 : decode cX3_patchOnce 14 = .ok (.getfield 18, 3) := by decide +kernel
theorem dX3_patchOnce_17 : decode cX3_patchOnce 17 = .ok (.iload_n 1, 1) := by decide +kernel
theorem dX3_patchOnce_18 : decode cX3_patchOnce 18 = .ok (.aload_n 0, 1) := by decide +kernel
theorem dX3_patchOnce_19 : decode cX3_patchOnce 19 = .ok (.getfield 18, 3) := by decide +kernel
theorem dX3_patchOnce_22 : decode cX3_patchOnce 22 = .ok (.iload_n 1, 1) := by decide +kernel
theorem dX3_patchOnce_23 : decode cX3_patchOnce 23 = .ok (.invokestatic 58, 3) := by decide +kernel
theorem dX3_patchOnce_26 : decode cX3_patchOnce 26 = .ok (.iconst 1, 1) := by decide +kernel
theorem dX3_patchOnce_27 : decode cX3_patchOnce 27 = .ok (.isub, 1) := by decide +kernel
theorem dX3_patchOnce_28 : decode cX3_patchOnce 28 = .ok (.invokestatic 77, 3) := by decide +kernel
theorem dX3_patchOnce_31 : decode cX3_patchOnce 31 = .ok (.iconst 1, 1) := by decide +kernel
theorem dX3_patchOnce_32 : decode cX3_patchOnce 32 = .ok (.ireturn, 1) := by decide +kernel
theorem dX3_hopeFor_0 : decode cX3_hopeFor 0 = .ok (.aload_n 0, 1) := by decide +kernel
theorem dX3_hopeFor_1 : decode cX3_hopeFor 1 = .ok (.getfield 40, 3) := by decide +kernel
theorem dX3_hopeFor_4 : decode cX3_hopeFor 4 = .ok (.iload_n 1, 1) := by decide +kernel
theorem dX3_hopeFor_5 : decode cX3_hopeFor 5 = .ok (.if_icmp .ne 5, 3) := by decide +kernel
theorem dX3_hopeFor_8 : decode cX3_hopeFor 8 = .ok (.iconst 0, 1) := by decide +kernel
theorem dX3_hopeFor_9 : decode cX3_hopeFor 9 = .ok (.ireturn, 1) := by decide +kernel
theorem dX3_hopeFor_10 : decode cX3_hopeFor 10 = .ok (.aload_n 0, 1) := by decide +kernel
theorem dX3_hopeFor_11 : decode cX3_hopeFor 11 = .ok (.iload_n 1, 1) := by decide +kernel
theorem dX3_hopeFor_12 : decode cX3_hopeFor 12 = .ok (.putfield 40, 3) := by decide +kernel
theorem dX3_hopeFor_15 : decode cX3_hopeFor 15 = .ok (.iconst 1, 1) := by decide +kernel
theorem dX3_hopeFor_16 : decode cX3_hopeFor 16 = .ok (.ireturn, 1) := by decide +kernel
theorem dX3_passHour_0 : decode cX3_passHour 0 = .ok (.iconst 0, 1) := by decide +kernel
theorem dX3_passHour_1 : decode cX3_passHour 1 = .ok (.istore_n 2, 1) := by decide +kernel
theorem dX3_passHour_2 : decode cX3_passHour 2 = .ok (.iconst 0, 1) := by decide +kernel
theorem dX3_passHour_3 : decode cX3_passHour 3 = .ok (.istore_n 3, 1) := by decide +kernel
theorem dX3_passHour_4 : decode cX3_passHour 4 = .ok (.iload_n 3, 1) := by decide +kernel
theorem dX3_passHour_5 : decode cX3_passHour 5 = .ok (.iconst 5, 1) := by decide +kernel
theorem dX3_passHour_6 : decode cX3_passHour 6 = .ok (.if_icmp .ge 82, 3) := by decide +kernel
theorem dX3_passHour_9 : decode cX3_passHour 9 = .ok (.iload_n 1, 1) := by decide +kernel
theorem dX3_passHour_10 : decode cX3_passHour 10 = .ok (.iload_n 3, 1) := by decide +kernel
theorem dX3_passHour_11 : decode cX3_passHour 11 = .ok (.invokestatic 49, 3) := by decide +kernel
theorem dX3_passHour_14 : decode cX3_passHour 14 = .ok (.iconst 1, 1) := by decide +kernel
theorem dX3_passHour_15 : decode cX3_passHour 15 = .ok (.if_icmp .ne 34, 3) := by decide +kernel
theorem dX3_passHour_18 : decode cX3_passHour 18 = .ok (.iload_n 2, 1) := by decide +kernel
theorem dX3_passHour_19 : decode cX3_passHour 19 = .ok (.aload_n 0, 1) := by decide +kernel
theorem dX3_passHour_20 : decode cX3_passHour 20 = .ok (.getfield 21, 3) := by decide +kernel
theorem dX3_passHour_23 : decode cX3_passHour 23 = .ok (.iload_n 3, 1) := by decide +kernel
theorem dX3_passHour_24 : decode cX3_passHour 24 = .ok (.iaload, 1) := by decide +kernel
theorem dX3_passHour_25 : decode cX3_passHour 25 = .ok (.iconst (-1), 1) := by decide +kernel
theorem dX3_passHour_26 : decode cX3_passHour 26 = .ok (.if_icmp .ne 7, 3) := by decide +kernel
theorem dX3_passHour_29 : decode cX3_passHour 29 = .ok (.iconst 1, 1) := by decide +kernel
theorem dX3_passHour_30 : decode cX3_passHour 30 = .ok (.goto 4, 3) := by decide +kernel
theorem dX3_passHour_33 : decode cX3_passHour 33 = .ok (.iconst 0, 1) := by decide +kernel
theorem dX3_passHour_34 : decode cX3_passHour 34 = .ok (.iadd, 1) := by decide +kernel
theorem dX3_passHour_35 : decode cX3_passHour 35 = .ok (.istore_n 2, 1) := by decide +kernel
theorem dX3_passHour_36 : decode cX3_passHour 36 = .ok (.aload_n 0, 1) := by decide +kernel
theorem dX3_passHour_37 : decode cX3_passHour 37 = .ok (.getfield 21, 3) := by decide +kernel
theorem dX3_passHour_40 : decode cX3_passHour 40 = .ok (.iload_n 3, 1) := by decide +kernel
theorem dX3_passHour_41 : decode cX3_passHour 41 = .ok (.aload_n 0, 1) := by decide +kernel
theorem dX3_passHour_42 : decode cX3_passHour 42 = .ok (.getfield 37, 3) := by decide +kernel
theorem dX3_passHour_45 : decode cX3_passHour 45 = .ok (.iastore, 1) := by decide +kernel
theorem dX3_passHour_46 : decode cX3_passHour 46 = .ok (.goto 36, 3) := by decide +kernel
theorem dX3_passHour_49 : decode cX3_passHour 49 = .ok (.aload_n 0, 1) := by decide +kernel
theorem dX3_passHour_50 : decode cX3_passHour 50 = .ok (.getfield 21, 3) := by decide +kernel
theorem dX3_passHour_53 : decode cX3_passHour 53 = .ok (.iload_n 3, 1) := by decide +kernel
theorem dX3_passHour_54 : decode cX3_passHour 54 = .ok (.iaload, 1) := by decide +kernel
theorem dX3_passHour_55 : decode cX3_passHour 55 = .ok (.iconst (-1), 1) := by decide +kernel
theorem dX3_passHour_56 : decode cX3_passHour 56 = .ok (.if_icmp .eq 26, 3) := by decide +kernel
theorem dX3_passHour_59 : decode cX3_passHour 59 = .ok (.aload_n 0, 1) := by decide +kernel
theorem dX3_passHour_60 : decode cX3_passHour 60 = .ok (.getfield 37, 3) := by decide +kernel
theorem dX3_passHour_63 : decode cX3_passHour 63 = .ok (.aload_n 0, 1) := by decide +kernel
theorem dX3_passHour_64 : decode cX3_passHour 64 = .ok (.getfield 21, 3) := by decide +kernel
theorem dX3_passHour_67 : decode cX3_passHour 67 = .ok (.iload_n 3, 1) := by decide +kernel
theorem dX3_passHour_68 : decode cX3_passHour 68 = .ok (.iaload, 1) := by decide +kernel
theorem dX3_passHour_69 : decode cX3_passHour 69 = .ok (.isub, 1) := by decide +kernel
theorem dX3_passHour_70 : decode cX3_passHour 70 = .ok (.bipush 9, 2) := by decide +kernel
theorem dX3_passHour_72 : decode cX3_passHour 72 = .ok (.if_icmp .lt 10, 3) := by decide +kernel
theorem dX3_passHour_75 : decode cX3_passHour 75 = .ok (.aload_n 0, 1) := by decide +kernel
theorem dX3_passHour_76 : decode cX3_passHour 76 = .ok (.getfield 21, 3) := by decide +kernel
theorem dX3_passHour_79 : decode cX3_passHour 79 = .ok (.iload_n 3, 1) := by decide +kernel
theorem dX3_passHour_80 : decode cX3_passHour 80 = .ok (.iconst (-1), 1) := by decide +kernel
theorem dX3_passHour_81 : decode cX3_passHour 81 = .ok (.iastore, 1) := by decide +kernel
theorem dX3_passHour_82 : decode cX3_passHour 82 = .ok (.iinc 3 1, 3) := by decide +kernel
theorem dX3_passHour_85 : decode cX3_passHour 85 = .ok (.goto (-81), 3) := by decide +kernel
theorem dX3_passHour_88 : decode cX3_passHour 88 = .ok (.aload_n 0, 1) := by decide +kernel
theorem dX3_passHour_89 : decode cX3_passHour 89 = .ok (.dup, 1) := by decide +kernel
theorem dX3_passHour_90 : decode cX3_passHour 90 = .ok (.getfield 37, 3) := by decide +kernel
theorem dX3_passHour_93 : decode cX3_passHour 93 = .ok (.iconst 1, 1) := by decide +kernel
theorem dX3_passHour_94 : decode cX3_passHour 94 = .ok (.iadd, 1) := by decide +kernel
theorem dX3_passHour_95 : decode cX3_passHour 95 = .ok (.putfield 37, 3) := by decide +kernel
theorem dX3_passHour_98 : decode cX3_passHour 98 = .ok (.iload_n 2, 1) := by decide +kernel
theorem dX3_passHour_99 : decode cX3_passHour 99 = .ok (.ireturn, 1) := by decide +kernel
theorem dX4_init_0 : decode cX4_init 0 = .ok (.aload_n 0, 1) := by decide +kernel
theorem dX4_init_1 : decode cX4_init 1 = .ok (.invokespecial 5, 3) := by decide +kernel
theorem dX4_init_4 : decode cX4_init 4 = .ok (.aload_n 0, 1) := by decide +kernel
theorem dX4_init_5 : decode cX4_init 5 = .ok (.sipush 432, 3) := by decide +kernel
theorem dX4_init_8 : decode cX4_init 8 = .ok (.newarray .int, 2) := by decide +kernel
theorem dX4_init_10 : decode cX4_init 10 = .ok (.putfield 11, 3) := by decide +kernel
theorem dX4_init_13 : decode cX4_init 13 = .ok (.aload_n 0, 1) := by decide +kernel
theorem dX4_init_14 : decode cX4_init 14 = .ok (.sipush 1377, 3) := by decide +kernel
theorem dX4_init_17 : decode cX4_init 17 = .ok (.newarray .int, 2) := by decide +kernel
theorem dX4_init_19 : decode cX4_init 19 = .ok (.putfield 15, 3) := by decide +kernel
theorem dX4_init_22 : decode cX4_init 22 = .ok (.aload_n 0, 1) := by decide +kernel
theorem dX4_init_23 : decode cX4_init 23 = .ok (.iconst 3, 1) := by decide +kernel
theorem dX4_init_24 : decode cX4_init 24 = .ok (.newarray .int, 2) := by decide +kernel
theorem dX4_init_26 : decode cX4_init 26 = .ok (.putfield 18, 3) := by decide +kernel
theorem dX4_init_29 : decode cX4_init 29 = .ok (.return_, 1) := by decide +kernel
theorem dX4_forget_0 : decode cX4_forget 0 = .ok (.aload_n 0, 1) := by decide +kernel
theorem dX4_forget_1 : decode cX4_forget 1 = .ok (.iconst 0, 1) := by decide +kernel
theorem dX4_forget_2 : decode cX4_forget 2 = .ok (.putfield 21, 3) := by decide +kernel
theorem dX4_forget_5 : decode cX4_forget 5 = .ok (.aload_n 0, 1) := by decide +kernel
theorem dX4_forget_6 : decode cX4_forget 6 = .ok (.iconst 0, 1) := by decide +kernel
theorem dX4_forget_7 : decode cX4_forget 7 = .ok (.putfield 25, 3) := by decide +kernel
theorem dX4_forget_10 : decode cX4_forget 10 = .ok (.return_, 1) := by decide +kernel
theorem dX4_isFull_0 : decode cX4_isFull 0 = .ok (.aload_n 0, 1) := by decide +kernel
theorem dX4_isFull_1 : decode cX4_isFull 1 = .ok (.getfield 21, 3) := by decide +kernel
theorem dX4_isFull_4 : decode cX4_isFull 4 = .ok (.bipush 16, 2) := by decide +kernel
theorem dX4_isFull_6 : decode cX4_isFull 6 = .ok (.if_icmp .lt 7, 3) := by decide +kernel
theorem dX4_isFull_9 : decode cX4_isFull 9 = .ok (.iconst 1, 1) := by decide +kernel
theorem dX4_isFull_10 : decode cX4_isFull 10 = .ok (.goto 4, 3) := by decide +kernel
theorem dX4_isFull_13 : decode cX4_isFull 13 = .ok (.iconst 0, 1) := by decide +kernel
theorem dX4_isFull_14 : decode cX4_isFull 14 = .ok (.ireturn, 1) := by decide +kernel
theorem dX4_push_0 : decode cX4_push 0 = .ok (.aload_n 1, 1) := by decide +kernel
theorem dX4_push_1 : decode cX4_push 1 = .ok (.aload_n 0, 1) := by decide +kernel
theorem dX4_push_2 : decode cX4_push 2 = .ok (.getfield 11, 3) := by decide +kernel
theorem dX4_push_5 : decode cX4_push 5 = .ok (.aload_n 0, 1) := by decide +kernel
theorem dX4_push_6 : decode cX4_push 6 = .ok (.getfield 21, 3) := by decide +kernel
theorem dX4_push_9 : decode cX4_push 9 = .ok (.bipush 27, 2) := by decide +kernel
theorem dX4_push_11 : decode cX4_push 11 = .ok (.imul, 1) := by decide +kernel
theorem dX4_push_12 : decode cX4_push 12 = .ok (.invokevirtual 28, 3) := by decide +kernel
theorem dX4_push_15 : decode cX4_push 15 = .ok (.aload_n 0, 1) := by decide +kernel
theorem dX4_push_16 : decode cX4_push 16 = .ok (.dup, 1) := by decide +kernel
theorem dX4_push_17 : decode cX4_push 17 = .ok (.getfield 21, 3) := by decide +kernel
theorem dX4_push_20 : decode cX4_push 20 = .ok (.iconst 1, 1) := by decide +kernel
theorem dX4_push_21 : decode cX4_push 21 = .ok (.iadd, 1) := by decide +kernel
theorem dX4_push_22 : decode cX4_push 22 = .ok (.putfield 21, 3) := by decide +kernel
theorem dX4_push_25 : decode cX4_push 25 = .ok (.return_, 1) := by decide +kernel
theorem dX4_pop_0 : decode cX4_pop 0 = .ok (.aload_n 0, 1) := by decide +kernel
theorem dX4_pop_1 : decode cX4_pop 1 = .ok (.dup, 1) := by decide +kernel
theorem dX4_pop_2 : decode cX4_pop 2 = .ok (.getfield 21, 3) := by decide +kernel
theorem dX4_pop_5 : decode cX4_pop 5 = .ok (.iconst 1, 1) := by decide +kernel
theorem dX4_pop_6 : decode cX4_pop 6 = .ok (.isub, 1) := by decide +kernel
theorem dX4_pop_7 : decode cX4_pop 7 = .ok (.putfield 21, 3) := by decide +kernel
theorem dX4_pop_10 : decode cX4_pop 10 = .ok (.aload_n 1, 1) := by decide +kernel
theorem dX4_pop_11 : decode cX4_pop 11 = .ok (.aload_n 0, 1) := by decide +kernel
theorem dX4_pop_12 : decode cX4_pop 12 = .ok (.getfield 11, 3) := by decide +kernel
theorem dX4_pop_15 : decode cX4_pop 15 = .ok (.aload_n 0, 1) := by decide +kernel
theorem dX4_pop_16 : decode cX4_pop 16 = .ok (.getfield 21, 3) := by decide +kernel
theorem dX4_pop_19 : decode cX4_pop 19 = .ok (.bipush 27, 2) := by decide +kernel
theorem dX4_pop_21 : decode cX4_pop 21 = .ok (.imul, 1) := by decide +kernel
theorem dX4_pop_22 : decode cX4_pop 22 = .ok (.invokevirtual 32, 3) := by decide +kernel
theorem dX4_pop_25 : decode cX4_pop 25 = .ok (.return_, 1) := by decide +kernel
theorem dX4_canKeep_0 : decode cX4_canKeep 0 = .ok (.aload_n 0, 1) := by decide +kernel
theorem dX4_canKeep_1 : decode cX4_canKeep 1 = .ok (.getfield 25, 3) := by decide +kernel
theorem dX4_canKeep_4 : decode cX4_canKeep 4 = .ok (.iconst 3, 1) := by decide +kernel
theorem dX4_canKeep_5 : decode cX4_canKeep 5 = .ok (.if_icmp .ge 7, 3) := by decide +kernel
theorem dX4_canKeep_8 : decode cX4_canKeep 8 = .ok (.iconst 1, 1) := by decide +kernel
theorem dX4_canKeep_9 : decode cX4_canKeep 9 = .ok (.goto 4, 3) := by decide +kernel
theorem dX4_canKeep_12 : decode cX4_canKeep 12 = .ok (.iconst 0, 1) := by decide +kernel
theorem dX4_canKeep_13 : decode cX4_canKeep 13 = .ok (.ireturn, 1) := by decide +kernel
theorem dX4_keep_0 : decode cX4_keep 0 = .ok (.aload_n 0, 1) := by decide +kernel
theorem dX4_keep_1 : decode cX4_keep 1 = .ok (.getfield 25, 3) := by decide +kernel
theorem dX4_keep_4 : decode cX4_keep 4 = .ok (.ifCond .lt 11, 3) := by decide +kernel
theorem dX4_keep_7 : decode cX4_keep 7 = .ok (.aload_n 0, 1) := by decide +kernel
theorem dX4_keep_8 : decode cX4_keep 8 = .ok (.getfield 25, 3) := by decide +kernel
theorem dX4_keep_11 : decode cX4_keep 11 = .ok (.iconst 3, 1) := by decide +kernel
theorem dX4_keep_12 : decode cX4_keep 12 = .ok (.if_icmp .lt 4, 3) := by decide +kernel
theorem dX4_keep_15 : decode cX4_keep 15 = .ok (.return_, 1) := by decide +kernel
theorem dX4_keep_16 : decode cX4_keep 16 = .ok (.aload_n 1, 1) := by decide +kernel
theorem dX4_keep_17 : decode cX4_keep 17 = .ok (.aload_n 0, 1) := by decide +kernel
theorem dX4_keep_18 : decode cX4_keep 18 = .ok (.getfield 15, 3) := by decide +kernel
theorem dX4_keep_21 : decode cX4_keep 21 = .ok (.aload_n 0, 1) := by decide +kernel
theorem dX4_keep_22 : decode cX4_keep 22 = .ok (.getfield 25, 3) := by decide +kernel
theorem dX4_keep_25 : decode cX4_keep 25 = .ok (.sipush 459, 3) := by decide +kernel
theorem dX4_keep_28 : decode cX4_keep 28 = .ok (.imul, 1) := by decide +kernel
theorem dX4_keep_29 : decode cX4_keep 29 = .ok (.invokevirtual 28, 3) := by decide +kernel
theorem dX4_keep_32 : decode cX4_keep 32 = .ok (.aload_n 0, 1) := by decide +kernel
theorem dX4_keep_33 : decode cX4_keep 33 = .ok (.getfield 11, 3) := by decide +kernel
theorem dX4_keep_36 : decode cX4_keep 36 = .ok (.iconst 0, 1) := by decide +kernel
theorem dX4_keep_37 : decode cX4_keep 37 = .ok (.aload_n 0, 1) := by decide +kernel
theorem dX4_keep_38 : decode cX4_keep 38 = .ok (.getfield 15, 3) := by decide +kernel
theorem dX4_keep_41 : decode cX4_keep 41 = .ok (.aload_n 0, 1) := by decide +kernel
theorem dX4_keep_42 : decode cX4_keep 42 = .ok (.getfield 25, 3) := by decide +kernel
theorem dX4_keep_45 : decode cX4_keep 45 = .ok (.sipush 459, 3) := by decide +kernel
theorem dX4_keep_48 : decode cX4_keep 48 = .ok (.imul, 1) := by decide +kernel
theorem dX4_keep_49 : decode cX4_keep 49 = .ok (.bipush 27, 2) := by decide +kernel
theorem dX4_keep_51 : decode cX4_keep 51 = .ok (.iadd, 1) := by decide +kernel
theorem dX4_keep_52 : decode cX4_keep 52 = .ok (.sipush 432, 3) := by decide +kernel
theorem dX4_keep_55 : decode cX4_keep 55 = .ok (.invokestatic 35, 3) := by decide +kernel
theorem dX4_keep_58 : decode cX4_keep 58 = .ok (.aload_n 0, 1) := by decide +kernel
theorem dX4_keep_59 : decode cX4_keep 59 = .ok (.getfield 18, 3) := by decide +kernel
theorem dX4_keep_62 : decode cX4_keep 62 = .ok (.aload_n 0, 1) := by decide +kernel
theorem dX4_keep_63 : decode cX4_keep 63 = .ok (.getfield 25, 3) := by decide +kernel
theorem dX4_keep_66 : decode cX4_keep 66 = .ok (.aload_n 0, 1) := by decide +kernel
theorem dX4_keep_67 : decode cX4_keep 67 = .ok (.getfield 21, 3) := by decide +kernel
theorem dX4_keep_70 : decode cX4_keep 70 = .ok (.iastore, 1) := by decide +kernel
theorem dX4_keep_71 : decode cX4_keep 71 = .ok (.aload_n 0, 1) := by decide +kernel
theorem dX4_keep_72 : decode cX4_keep 72 = .ok (.dup, 1) := by decide +kernel
theorem dX4_keep_73 : decode cX4_keep 73 = .ok (.getfield 25, 3) := by decide +kernel
theorem dX4_keep_76 : decode cX4_keep 76 = .ok (.iconst 1, 1) := by decide +kernel
theorem dX4_keep_77 : decode cX4_keep 77 = .ok (.iadd, 1) := by decide +kernel
theorem dX4_keep_78 : decode cX4_keep 78 = .ok (.putfield 25, 3) := by decide +kernel
theorem dX4_keep_81 : decode cX4_keep 81 = .ok (.return_, 1) := by decide +kernel
theorem dX4_bringBack_0 : decode cX4_bringBack 0 = .ok (.aload_n 0, 1) := by decide +kernel
theorem dX4_bringBack_1 : decode cX4_bringBack 1 = .ok (.getfield 25, 3) := by decide +kernel
theorem dX4_bringBack_4 : decode cX4_bringBack 4 = .ok (.iconst 1, 1) := by decide +kernel
theorem dX4_bringBack_5 : decode cX4_bringBack 5 = .ok (.if_icmp .lt 11, 3) := by decide +kernel
theorem dX4_bringBack_8 : decode cX4_bringBack 8 = .ok (.aload_n 0, 1) := by decide +kernel
theorem dX4_bringBack_9 : decode cX4_bringBack 9 = .ok (.getfield 25, 3) := by decide +kernel
theorem dX4_bringBack_12 : decode cX4_bringBack 12 = .ok (.iconst 3, 1) := by decide +kernel
theorem dX4_bringBack_13 : decode cX4_bringBack 13 = .ok (.if_icmp .le 4, 3) := by decide +kernel
theorem dX4_bringBack_16 : decode cX4_bringBack 16 = .ok (.return_, 1) := by decide +kernel
theorem dX4_bringBack_17 : decode cX4_bringBack 17 = .ok (.aload_n 0, 1) := by decide +kernel
theorem dX4_bringBack_18 : decode cX4_bringBack 18 = .ok (.dup, 1) := by decide +kernel
theorem dX4_bringBack_19 : decode cX4_bringBack 19 = .ok (.getfield 25, 3) := by decide +kernel
theorem dX4_bringBack_22 : decode cX4_bringBack 22 = .ok (.iconst 1, 1) := by decide +kernel
theorem dX4_bringBack_23 : decode cX4_bringBack 23 = .ok (.isub, 1) := by decide +kernel
theorem dX4_bringBack_24 : decode cX4_bringBack 24 = .ok (.putfield 25, 3) := by decide +kernel
theorem dX4_bringBack_27 : decode cX4_bringBack 27 = .ok (.aload_n 1, 1) := by decide +kernel
theorem dX4_bringBack_28 : decode cX4_bringBack 28 = .ok (.aload_n 0, 1) := by decide +kernel
theorem dX4_bringBack_29 : decode cX4_bringBack 29 = .ok (.getfield 15, 3) := by decide +kernel
theorem dX4_bringBack_32 : decode cX4_bringBack 32 = .ok (.aload_n 0, 1) := by decide +kernel
theorem dX4_bringBack_33 : decode cX4_bringBack 33 = .ok (.getfield 25, 3) := by decide +kernel
theorem dX4_bringBack_36 : decode cX4_bringBack 36 = .ok (.sipush 459, 3) := by decide +kernel
theorem dX4_bringBack_39 : decode cX4_bringBack 39 = .ok (.imul, 1) := by decide +kernel
theorem dX4_bringBack_40 : decode cX4_bringBack 40 = .ok (.invokevirtual 32, 3) := by decide +kernel
theorem dX4_bringBack_43 : decode cX4_bringBack 43 = .ok (.aload_n 0, 1) := by decide +kernel
theorem dX4_bringBack_44 : decode cX4_bringBack 44 = .ok (.getfield 15, 3) := by decide +kernel
theorem dX4_bringBack_47 : decode cX4_bringBack 47 = .ok (.aload_n 0, 1) := by decide +kernel
theorem dX4_bringBack_48 : decode cX4_bringBack 48 = .ok (.getfield 25, 3) := by decide +kernel
theorem dX4_bringBack_51 : decode cX4_bringBack 51 = .ok (.sipush 459, 3) := by decide +kernel
theorem dX4_bringBack_54 : decode cX4_bringBack 54 = .ok (.imul, 1) := by decide +kernel
theorem dX4_bringBack_55 : decode cX4_bringBack 55 = .ok (.bipush 27, 2) := by decide +kernel
theorem dX4_bringBack_57 : decode cX4_bringBack 57 = .ok (.iadd, 1) := by decide +kernel
theorem dX4_bringBack_58 : decode cX4_bringBack 58 = .ok (.aload_n 0, 1) := by decide +kernel
theorem dX4_bringBack_59 : decode cX4_bringBack 59 = .ok (.getfield 11, 3) := by decide +kernel
theorem dX4_bringBack_62 : decode cX4_bringBack 62 = .ok (.iconst 0, 1) := by decide +kernel
theorem dX4_bringBack_63 : decode cX4_bringBack 63 = .ok (.sipush 432, 3) := by decide +kernel
theorem dX4_bringBack_66 : decode cX4_bringBack 66 = .ok (.invokestatic 35, 3) := by decide +kernel
theorem dX4_bringBack_69 : decode cX4_bringBack 69 = .ok (.aload_n 0, 1) := by decide +kernel
theorem dX4_bringBack_70 : decode cX4_bringBack 70 = .ok (.aload_n 0, 1) := by decide +kernel
theorem dX4_bringBack_71 : decode cX4_bringBack 71 = .ok (.getfield 18, 3) := by decide +kernel
theorem dX4_bringBack_74 : decode cX4_bringBack 74 = .ok (.aload_n 0, 1) := by decide +kernel
theorem dX4_bringBack_75 : decode cX4_bringBack 75 = .ok (.getfield 25, 3) := by decide +kernel
theorem dX4_bringBack_78 : decode cX4_bringBack 78 = .ok (.iaload, 1) := by decide +kernel
theorem dX4_bringBack_79 : decode cX4_bringBack 79 = .ok (.putfield 21, 3) := by decide +kernel
theorem dX4_bringBack_82 : decode cX4_bringBack 82 = .ok (.return_, 1) := by decide +kernel
theorem dX5_init_0 : decode cX5_init 0 = .ok (.aload_n 0, 1) := by decide +kernel
theorem dX5_init_1 : decode cX5_init 1 = .ok (.invokespecial 5, 3) := by decide +kernel
theorem dX5_init_4 : decode cX5_init 4 = .ok (.aload_n 0, 1) := by decide +kernel
theorem dX5_init_5 : decode cX5_init 5 = .ok (.bipush 12, 2) := by decide +kernel
theorem dX5_init_7 : decode cX5_init 7 = .ok (.newarray .int, 2) := by decide +kernel
theorem dX5_init_9 : decode cX5_init 9 = .ok (.putfield 11, 3) := by decide +kernel
theorem dX5_init_12 : decode cX5_init 12 = .ok (.aload_n 0, 1) := by decide +kernel
theorem dX5_init_13 : decode cX5_init 13 = .ok (.sipush 768, 3) := by decide +kernel
theorem dX5_init_16 : decode cX5_init 16 = .ok (.newarray .int, 2) := by decide +kernel
theorem dX5_init_18 : decode cX5_init 18 = .ok (.putfield 15, 3) := by decide +kernel
theorem dX5_init_21 : decode cX5_init 21 = .ok (.aload_n 0, 1) := by decide +kernel
theorem dX5_init_22 : decode cX5_init 22 = .ok (.bipush 6, 2) := by decide +kernel
theorem dX5_init_24 : decode cX5_init 24 = .ok (.newarray .int, 2) := by decide +kernel
theorem dX5_init_26 : decode cX5_init 26 = .ok (.putfield 18, 3) := by decide +kernel
theorem dX5_init_29 : decode cX5_init 29 = .ok (.aload_n 0, 1) := by decide +kernel
theorem dX5_init_30 : decode cX5_init 30 = .ok (.iconst (-1), 1) := by decide +kernel
theorem dX5_init_31 : decode cX5_init 31 = .ok (.putfield 21, 3) := by decide +kernel
theorem dX5_init_34 : decode cX5_init 34 = .ok (.aload_n 0, 1) := by decide +kernel
theorem dX5_init_35 : decode cX5_init 35 = .ok (.bipush 6, 2) := by decide +kernel
theorem dX5_init_37 : decode cX5_init 37 = .ok (.newarray .int, 2) := by decide +kernel
theorem dX5_init_39 : decode cX5_init 39 = .ok (.putfield 25, 3) := by decide +kernel
theorem dX5_init_42 : decode cX5_init 42 = .ok (.aload_n 0, 1) := by decide +kernel
theorem dX5_init_43 : decode cX5_init 43 = .ok (.bipush 6, 2) := by decide +kernel
theorem dX5_init_45 : decode cX5_init 45 = .ok (.newarray .int, 2) := by decide +kernel
theorem dX5_init_47 : decode cX5_init 47 = .ok (.putfield 28, 3) := by decide +kernel
theorem dX5_init_50 : decode cX5_init 50 = .ok (.aload_n 0, 1) := by decide +kernel
theorem dX5_init_51 : decode cX5_init 51 = .ok (.sipush 1200, 3) := by decide +kernel
theorem dX5_init_54 : decode cX5_init 54 = .ok (.newarray .long, 2) := by decide +kernel
theorem dX5_init_56 : decode cX5_init 56 = .ok (.putfield 31, 3) := by decide +kernel
theorem dX5_init_59 : decode cX5_init 59 = .ok (.aload_n 0, 1) := by decide +kernel
theorem dX5_init_60 : decode cX5_init 60 = .ok (.bipush 64, 2) := by decide +kernel
theorem dX5_init_62 : decode cX5_init 62 = .ok (.newarray .int, 2) := by decide +kernel
theorem dX5_init_64 : decode cX5_init 64 = .ok (.putfield 35, 3) := by decide +kernel
theorem dX5_init_67 : decode cX5_init 67 = .ok (.aload_n 0, 1) := by decide +kernel
theorem dX5_init_68 : decode cX5_init 68 = .ok (.aload_n 1, 1) := by decide +kernel
theorem dX5_init_69 : decode cX5_init 69 = .ok (.putfield 38, 3) := by decide +kernel
theorem dX5_init_72 : decode cX5_init 72 = .ok (.aload_n 0, 1) := by decide +kernel
theorem dX5_init_73 : decode cX5_init 73 = .ok (.aload_n 2, 1) := by decide +kernel
theorem dX5_init_74 : decode cX5_init 74 = .ok (.putfield 42, 3) := by decide +kernel
theorem dX5_init_77 : decode cX5_init 77 = .ok (.return_, 1) := by decide +kernel
theorem dX5_forgetHouse_0 : decode cX5_forgetHouse 0 = .ok (.aload_n 0, 1) := by decide +kernel
theorem dX5_forgetHouse_1 : decode cX5_forgetHouse 1 = .ok (.iconst 0, 1) := by decide +kernel
theorem dX5_forgetHouse_2 : decode cX5_forgetHouse 2 = .ok (.putfield 46, 3) := by decide +kernel
theorem dX5_forgetHouse_5 : decode cX5_forgetHouse 5 = .ok (.aload_n 0, 1) := by decide +kernel
theorem dX5_forgetHouse_6 : decode cX5_forgetHouse 6 = .ok (.iconst 0, 1) := by decide +kernel
theorem dX5_forgetHouse_7 : decode cX5_forgetHouse 7 = .ok (.putfield 50, 3) := by decide +kernel
theorem dX5_forgetHouse_10 : decode cX5_forgetHouse 10 = .ok (.aload_n 0, 1) := by decide +kernel
theorem dX5_forgetHouse_11 : decode cX5_forgetHouse 11 = .ok (.invokevirtual 53, 3) := by decide +kernel
theorem dX5_forgetHouse_14 : decode cX5_forgetHouse 14 = .ok (.return_, 1) := by decide +kernel
theorem dX5_forgetShort_0 : decode cX5_forgetShort 0 = .ok (.aload_n 0, 1) := by decide +kernel
theorem dX5_forgetShort_1 : decode cX5_forgetShort 1 = .ok (.iconst (-1), 1) := by decide +kernel
theorem dX5_forgetShort_2 : decode cX5_forgetShort 2 = .ok (.putfield 21, 3) := by decide +kernel
theorem dX5_forgetShort_5 : decode cX5_forgetShort 5 = .ok (.return_, 1) := by decide +kernel
theorem dX5_findChain_0 : decode cX5_findChain 0 = .ok (.aload_n 0, 1) := by decide +kernel
theorem dX5_findChain_1 : decode cX5_findChain 1 = .ok (.getfield 46, 3) := by decide +kernel
theorem dX5_findChain_4 : decode cX5_findChain 4 = .ok (.ifCond .eq 4, 3) := by decide +kernel
theorem dX5_findChain_7 : decode cX5_findChain 7 = .ok (.return_, 1) := by decide +kernel
theorem dX5_findChain_8 : decode cX5_findChain 8 = .ok (.aload_n 0, 1) := by decide +kernel
theorem dX5_findChain_9 : decode cX5_findChain 9 = .ok (.aload_n 0, 1) := by decide +kernel
theorem dX5_findChain_10 : decode cX5_findChain 10 = .ok (.invokevirtual 56, 3) := by decide +kernel
theorem dX5_findChain_13 : decode cX5_findChain 13 = .ok (.putfield 60, 3) := by decide +kernel
theorem dX5_findChain_16 : decode cX5_findChain 16 = .ok (.aload_n 0, 1) := by decide +kernel
theorem dX5_findChain_17 : decode cX5_findChain 17 = .ok (.iconst 0, 1) := by decide +kernel
theorem dX5_findChain_18 : decode cX5_findChain 18 = .ok (.putfield 63, 3) := by decide +kernel
theorem dX5_findChain_21 : decode cX5_findChain 21 = .ok (.iconst 0, 1) := by decide +kernel
theorem dX5_findChain_22 : decode cX5_findChain 22 = .ok (.istore_n 1, 1) := by decide +kernel
theorem dX5_findChain_23 : decode cX5_findChain 23 = .ok (.iconst (-1), 1) := by decide +kernel
theorem dX5_findChain_24 : decode cX5_findChain 24 = .ok (.istore_n 2, 1) := by decide +kernel
theorem dX5_findChain_25 : decode cX5_findChain 25 = .ok (.aload_n 0, 1) := by decide +kernel
theorem dX5_findChain_26 : decode cX5_findChain 26 = .ok (.getfield 60, 3) := by decide +kernel
theorem dX5_findChain_29 : decode cX5_findChain 29 = .ok (.istore_n 3, 1) := by decide +kernel
theorem dX5_findChain_30 : decode cX5_findChain 30 = .ok (.iconst 0, 1) := by decide +kernel
theorem dX5_findChain_31 : decode cX5_findChain 31 = .ok (.istore 4, 2) := by decide +kernel
theorem dX5_findChain_33 : decode cX5_findChain 33 = .ok (.iload 4, 2) := by decide +kernel
theorem dX5_findChain_35 : decode cX5_findChain 35 = .ok (.bipush 6, 2) := by decide +kernel
theorem dX5_findChain_37 : decode cX5_findChain 37 = .ok (.if_icmp .ge 63, 3) := by decide +kernel
theorem dX5_findChain_40 : decode cX5_findChain 40 = .ok (.iload_n 3, 1) := by decide +kernel
theorem dX5_findChain_41 : decode cX5_findChain 41 = .ok (.ifCond .le 59, 3) := by decide +kernel
theorem dX5_findChain_44 : decode cX5_findChain 44 = .ok (.aload_n 0, 1) := by decide +kernel
theorem dX5_findChain_45 : decode cX5_findChain 45 = .ok (.iload_n 1, 1) := by decide +kernel
theorem dX5_findChain_46 : decode cX5_findChain 46 = .ok (.iload_n 2, 1) := by decide +kernel
theorem dX5_findChain_47 : decode cX5_findChain 47 = .ok (.iload_n 3, 1) := by decide +kernel
theorem dX5_findChain_48 : decode cX5_findChain 48 = .ok (.invokevirtual 66, 3) := by decide +kernel
theorem dX5_findChain_51 : decode cX5_findChain 51 = .ok (.istore_n 2, 1) := by decide +kernel
theorem dX5_findChain_52 : decode cX5_findChain 52 = .ok (.iload_n 1, 1) := by decide +kernel
theorem dX5_findChain_53 : decode cX5_findChain 53 = .ok (.iconst 1, 1) := by decide +kernel
theorem dX5_findChain_54 : decode cX5_findChain 54 = .ok (.iload_n 2, 1) := by decide +kernel
theorem dX5_findChain_55 : decode cX5_findChain 55 = .ok (.iconst 1, 1) := by decide +kernel
theorem dX5_findChain_56 : decode cX5_findChain 56 = .ok (.ishr, 1) := by decide +kernel
theorem dX5_findChain_57 : decode cX5_findChain 57 = .ok (.ishl, 1) := by decide +kernel
theorem dX5_findChain_58 : decode cX5_findChain 58 = .ok (.ior, 1) := by decide +kernel
theorem dX5_findChain_59 : decode cX5_findChain 59 = .ok (.istore_n 1, 1) := by decide +kernel
theorem dX5_findChain_60 : decode cX5_findChain 60 = .ok (.iload_n 3, 1) := by decide +kernel
theorem dX5_findChain_61 : decode cX5_findChain 61 = .ok (.aload_n 0, 1) := by decide +kernel
theorem dX5_findChain_62 : decode cX5_findChain 62 = .ok (.getfield 38, 3) := by decide +kernel
theorem dX5_findChain_65 : decode cX5_findChain 65 = .ok (.getfield 70, 3) := by decide +kernel
theorem dX5_findChain_68 : decode cX5_findChain 68 = .ok (.iload_n 2, 1) := by decide +kernel
theorem dX5_findChain_69 : decode cX5_findChain 69 = .ok (.iconst 1, 1) := by decide +kernel
theorem dX5_findChain_70 : decode cX5_findChain 70 = .ok (.ishr, 1) := by decide +kernel
theorem dX5_findChain_71 : decode cX5_findChain 71 = .ok (.invokestatic 75, 3) := by decide +kernel
theorem dX5_findChain_74 : decode cX5_findChain 74 = .ok (.isub, 1) := by decide +kernel
theorem dX5_findChain_75 : decode cX5_findChain 75 = .ok (.istore_n 3, 1) := by decide +kernel
theorem dX5_findChain_76 : decode cX5_findChain 76 = .ok (.aload_n 0, 1) := by decide +kernel
theorem dX5_findChain_77 : decode cX5_findChain 77 = .ok (.getfield 18, 3) := by decide +kernel
theorem dX5_findChain_80 : decode cX5_findChain 80 = .ok (.iload 4, 2) := by decide +kernel
theorem dX5_findChain_82 : decode cX5_findChain 82 = .ok (.iload_n 2, 1) := by decide +kernel
theorem dX5_findChain_83 : decode cX5_findChain 83 = .ok (.iastore, 1) := by decide +kernel
theorem dX5_findChain_84 : decode cX5_findChain 84 = .ok (.aload_n 0, 1) := by decide +kernel
theorem dX5_findChain_85 : decode cX5_findChain 85 = .ok (.dup, 1) := by decide +kernel
theorem dX5_findChain_86 : decode cX5_findChain 86 = .ok (.getfield 63, 3) := by decide +kernel
theorem dX5_findChain_89 : decode cX5_findChain 89 = .ok (.iconst 1, 1) := by decide +kernel
theorem dX5_findChain_90 : decode cX5_findChain 90 = .ok (.iadd, 1) := by decide +kernel
theorem dX5_findChain_91 : decode cX5_findChain 91 = .ok (.putfield 63, 3) := by decide +kernel
theorem dX5_findChain_94 : decode cX5_findChain 94 = .ok (.iinc 4 1, 3) := by decide +kernel
theorem dX5_findChain_97 : decode cX5_findChain 97 = .ok (.goto (-64), 3) := by decide +kernel
theorem dX5_findChain_100 : decode cX5_findChain 100 = .ok (.aload_n 0, 1) := by decide +kernel
theorem dX5_findChain_101 : decode cX5_findChain 101 = .ok (.iconst 1, 1) := by decide +kernel
theorem dX5_findChain_102 : decode cX5_findChain 102 = .ok (.putfield 46, 3) := by decide +kernel
theorem dX5_findChain_105 : decode cX5_findChain 105 = .ok (.return_, 1) := by decide +kernel
theorem dX5_fillFollowers_0 : decode cX5_fillFollowers 0 = .ok (.iconst 0, 1) := by decide +kernel
theorem dX5_fillFollowers_1 : decode cX5_fillFollowers 1 = .ok (.istore_n 1, 1) := by decide +kernel
theorem dX5_fillFollowers_2 : decode cX5_fillFollowers 2 = .ok (.iload_n 1, 1) := by decide +kernel
theorem dX5_fillFollowers_3 : decode cX5_fillFollowers 3 = .ok (.iconst 2, 1) := by decide +kernel
theorem dX5_fillFollowers_4 : decode cX5_fillFollowers 4 = .ok (.aload_n 0, 1) := by decide +kernel
theorem dX5_fillFollowers_5 : decode cX5_fillFollowers 5 = .ok (.getfield 38, 3) := by decide +kernel
theorem dX5_fillFollowers_8 : decode cX5_fillFollowers 8 = .ok (.getfield 79, 3) := by decide +kernel
theorem dX5_fillFollowers_11 : decode cX5_fillFollowers 11 = .ok (.imul, 1) := by decide +kernel
theorem dX5_fillFollowers_12 : decode cX5_fillFollowers 12 = .ok (.if_icmp .ge 63, 3) := by decide +kernel
theorem dX5_fillFollowers_15 : decode cX5_fillFollowers 15 = .ok (.iload_n 1, 1) := by decide +kernel
theorem dX5_fillFollowers_16 : decode cX5_fillFollowers 16 = .ok (.bipush 12, 2) := by decide +kernel
theorem dX5_fillFollowers_18 : decode cX5_fillFollowers 18 = .ok (.if_icmp .ge 57, 3) := by decide +kernel
theorem dX5_fillFollowers_21 : decode cX5_fillFollowers 21 = .ok (.iconst 0, 1) := by decide +kernel
theorem dX5_fillFollowers_22 : decode cX5_fillFollowers 22 = .ok (.istore_n 2, 1) := by decide +kernel
theorem dX5_fillFollowers_23 : decode cX5_fillFollowers 23 = .ok (.iconst 0, 1) := by decide +kernel
theorem dX5_fillFollowers_24 : decode cX5_fillFollowers 24 = .ok (.istore_n 3, 1) := by decide +kernel
theorem dX5_fillFollowers_25 : decode cX5_fillFollowers 25 = .ok (.iload_n 3, 1) := by decide +kernel
theorem dX5_fillFollowers_26 : decode cX5_fillFollowers 26 = .ok (.iconst 2, 1) := by decide +kernel
theorem dX5_fillFollowers_27 : decode cX5_fillFollowers 27 = .ok (.aload_n 0, 1) := by decide +kernel
theorem dX5_fillFollowers_28 : decode cX5_fillFollowers 28 = .ok (.getfield 38, 3) := by decide +kernel
theorem dX5_fillFollowers_31 : decode cX5_fillFollowers 31 = .ok (.getfield 79, 3) := by decide +kernel
theorem dX5_fillFollowers_34 : decode cX5_fillFollowers 34 = .ok (.imul, 1) := by decide +kernel
theorem dX5_fillFollowers_35 : decode cX5_fillFollowers 35 = .ok (.if_icmp .ge 27, 3) := by decide +kernel
theorem dX5_fillFollowers_38 : decode cX5_fillFollowers 38 = .ok (.aload_n 0, 1) := by decide +kernel
theorem dX5_fillFollowers_39 : decode cX5_fillFollowers 39 = .ok (.getfield 38, 3) := by decide +kernel
theorem dX5_fillFollowers_42 : decode cX5_fillFollowers 42 = .ok (.iload_n 1, 1) := by decide +kernel
theorem dX5_fillFollowers_43 : decode cX5_fillFollowers 43 = .ok (.iload_n 3, 1) := by decide +kernel
theorem dX5_fillFollowers_44 : decode cX5_fillFollowers 44 = .ok (.invokevirtual 82, 3) := by decide +kernel
theorem dX5_fillFollowers_47 : decode cX5_fillFollowers 47 = .ok (.ifCond .eq 9, 3) := by decide +kernel
theorem dX5_fillFollowers_50 : decode cX5_fillFollowers 50 = .ok (.iload_n 2, 1) := by decide +kernel
theorem dX5_fillFollowers_51 : decode cX5_fillFollowers 51 = .ok (.iconst 1, 1) := by decide +kernel
theorem dX5_fillFollowers_52 : decode cX5_fillFollowers 52 = .ok (.iload_n 3, 1) := by decide +kernel
theorem dX5_fillFollowers_53 : decode cX5_fillFollowers 53 = .ok (.ishl, 1) := by decide +kernel
theorem dX5_fillFollowers_54 : decode cX5_fillFollowers 54 = .ok (.ior, 1) := by decide +kernel
theorem dX5_fillFollowers_55 : decode cX5_fillFollowers 55 = .ok (.istore_n 2, 1) := by decide +kernel
theorem dX5_fillFollowers_56 : decode cX5_fillFollowers 56 = .ok (.iinc 3 1, 3) := by decide +kernel
theorem dX5_fillFollowers_59 : decode cX5_fillFollowers 59 = .ok (.goto (-34), 3) := by decide +kernel
theorem dX5_fillFollowers_62 : decode cX5_fillFollowers 62 = .ok (.aload_n 0, 1) := by decide +kernel
theorem dX5_fillFollowers_63 : decode cX5_fillFollowers 63 = .ok (.getfield 11, 3) := by decide +kernel
theorem dX5_fillFollowers_66 : decode cX5_fillFollowers 66 = .ok (.iload_n 1, 1) := by decide +kernel
theorem dX5_fillFollowers_67 : decode cX5_fillFollowers 67 = .ok (.iload_n 2, 1) := by decide +kernel
theorem dX5_fillFollowers_68 : decode cX5_fillFollowers 68 = .ok (.iastore, 1) := by decide +kernel
theorem dX5_fillFollowers_69 : decode cX5_fillFollowers 69 = .ok (.iinc 1 1, 3) := by decide +kernel
theorem dX5_fillFollowers_72 : decode cX5_fillFollowers 72 = .ok (.goto (-70), 3) := by decide +kernel
theorem dX5_fillFollowers_75 : decode cX5_fillFollowers 75 = .ok (.return_, 1) := by decide +kernel
theorem dX5_longestNow_0 : decode cX5_longestNow 0 = .ok (.aload_n 0, 1) := by decide +kernel
theorem dX5_longestNow_1 : decode cX5_longestNow 1 = .ok (.invokevirtual 86, 3) := by decide +kernel
theorem dX5_longestNow_4 : decode cX5_longestNow 4 = .ok (.iconst 1, 1) := by decide +kernel
theorem dX5_longestNow_5 : decode cX5_longestNow 5 = .ok (.aload_n 0, 1) := by decide +kernel
theorem dX5_longestNow_6 : decode cX5_longestNow 6 = .ok (.getfield 38, 3) := by decide +kernel
theorem dX5_longestNow_9 : decode cX5_longestNow 9 = .ok (.getfield 79, 3) := by decide +kernel
theorem dX5_longestNow_12 : decode cX5_longestNow 12 = .ok (.ishl, 1) := by decide +kernel
theorem dX5_longestNow_13 : decode cX5_longestNow 13 = .ok (.iconst 1, 1) := by decide +kernel
theorem dX5_longestNow_14 : decode cX5_longestNow 14 = .ok (.isub, 1) := by decide +kernel
theorem dX5_longestNow_15 : decode cX5_longestNow 15 = .ok (.istore_n 1, 1) := by decide +kernel
theorem dX5_longestNow_16 : decode cX5_longestNow 16 = .ok (.iload_n 1, 1) := by decide +kernel
theorem dX5_longestNow_17 : decode cX5_longestNow 17 = .ok (.ifCond .le 60, 3) := by decide +kernel
theorem dX5_longestNow_20 : decode cX5_longestNow 20 = .ok (.iconst 0, 1) := by decide +kernel
theorem dX5_longestNow_21 : decode cX5_longestNow 21 = .ok (.istore_n 2, 1) := by decide +kernel
theorem dX5_longestNow_22 : decode cX5_longestNow 22 = .ok (.iload_n 2, 1) := by decide +kernel
theorem dX5_longestNow_23 : decode cX5_longestNow 23 = .ok (.iconst 2, 1) := by decide +kernel
theorem dX5_longestNow_24 : decode cX5_longestNow 24 = .ok (.aload_n 0, 1) := by decide +kernel
theorem dX5_longestNow_25 : decode cX5_longestNow 25 = .ok (.getfield 38, 3) := by decide +kernel
theorem dX5_longestNow_28 : decode cX5_longestNow 28 = .ok (.getfield 79, 3) := by decide +kernel
theorem dX5_longestNow_31 : decode cX5_longestNow 31 = .ok (.imul, 1) := by decide +kernel
theorem dX5_longestNow_32 : decode cX5_longestNow 32 = .ok (.if_icmp .ge 39, 3) := by decide +kernel
theorem dX5_longestNow_35 : decode cX5_longestNow 35 = .ok (.iload_n 1, 1) := by decide +kernel
theorem dX5_longestNow_36 : decode cX5_longestNow 36 = .ok (.iload_n 2, 1) := by decide +kernel
theorem dX5_longestNow_37 : decode cX5_longestNow 37 = .ok (.iconst 1, 1) := by decide +kernel
theorem dX5_longestNow_38 : decode cX5_longestNow 38 = .ok (.ishr, 1) := by decide +kernel
theorem dX5_longestNow_39 : decode cX5_longestNow 39 = .ok (.invokestatic 89, 3) := by decide +kernel
theorem dX5_longestNow_42 : decode cX5_longestNow 42 = .ok (.iconst 1, 1) := by decide +kernel
theorem dX5_longestNow_43 : decode cX5_longestNow 43 = .ok (.if_icmp .ne 22, 3) := by decide +kernel
theorem dX5_longestNow_46 : decode cX5_longestNow 46 = .ok (.aload_n 0, 1) := by decide +kernel
theorem dX5_longestNow_47 : decode cX5_longestNow 47 = .ok (.getfield 15, 3) := by decide +kernel
theorem dX5_longestNow_50 : decode cX5_longestNow 50 = .ok (.iload_n 1, 1) := by decide +kernel
theorem dX5_longestNow_51 : decode cX5_longestNow 51 = .ok (.bipush 12, 2) := by decide +kernel
theorem dX5_longestNow_53 : decode cX5_longestNow 53 = .ok (.imul, 1) := by decide +kernel
theorem dX5_longestNow_54 : decode cX5_longestNow 54 = .ok (.iload_n 2, 1) := by decide +kernel
theorem dX5_longestNow_55 : decode cX5_longestNow 55 = .ok (.iadd, 1) := by decide +kernel
theorem dX5_longestNow_56 : decode cX5_longestNow 56 = .ok (.aload_n 0, 1) := by decide +kernel
theorem dX5_longestNow_57 : decode cX5_longestNow 57 = .ok (.iload_n 1, 1) := by decide +kernel
theorem dX5_longestNow_58 : decode cX5_longestNow 58 = .ok (.iload_n 2, 1) := by decide +kernel
theorem dX5_longestNow_59 : decode cX5_longestNow 59 = .ok (.invokevirtual 93, 3) := by decide +kernel
theorem dX5_longestNow_62 : decode cX5_longestNow 62 = .ok (.invokestatic 96, 3) := by decide +kernel
theorem dX5_longestNow_65 : decode cX5_longestNow 65 = .ok (.iinc 2 1, 3) := by decide +kernel
theorem dX5_longestNow_68 : decode cX5_longestNow 68 = .ok (.goto (-46), 3) := by decide +kernel
theorem dX5_longestNow_71 : decode cX5_longestNow 71 = .ok (.iinc 1 (-1), 3) := by decide +kernel
theorem dX5_longestNow_74 : decode cX5_longestNow 74 = .ok (.goto (-58), 3) := by decide +kernel
theorem dX5_longestNow_77 : decode cX5_longestNow 77 = .ok (.aload_n 0, 1) := by decide +kernel
theorem dX5_longestNow_78 : decode cX5_longestNow 78 = .ok (.iconst 0, 1) := by decide +kernel
theorem dX5_longestNow_79 : decode cX5_longestNow 79 = .ok (.iconst (-1), 1) := by decide +kernel
theorem dX5_longestNow_80 : decode cX5_longestNow 80 = .ok (.invokevirtual 93, 3) := by decide +kernel
theorem dX5_longestNow_83 : decode cX5_longestNow 83 = .ok (.ireturn, 1) := by decide +kernel
theorem dX5_longestBehind_0 : decode cX5_longestBehind 0 = .ok (.iconst 0, 1) := by decide +kernel
theorem dX5_longestBehind_1 : decode cX5_longestBehind 1 = .ok (.istore_n 3, 1) := by decide +kernel
theorem dX5_longestBehind_2 : decode cX5_longestBehind 2 = .ok (.iconst 0, 1) := by decide +kernel
theorem dX5_longestBehind_3 : decode cX5_longestBehind 3 = .ok (.istore 4, 2) := by decide +kernel
theorem dX5_longestBehind_5 : decode cX5_longestBehind 5 = .ok (.iload 4, 2) := by decide +kernel
theorem dX5_longestBehind_7 : decode cX5_longestBehind 7 = .ok (.iconst 2, 1) := by decide +kernel
theorem dX5_longestBehind_8 : decode cX5_longestBehind 8 = .ok (.aload_n 0, 1) := by decide +kernel
theorem dX5_longestBehind_9 : decode cX5_longestBehind 9 = .ok (.getfield 38, 3) := by decide +kernel
theorem dX5_longestBehind_12 : decode cX5_longestBehind 12 = .ok (.getfield 79, 3) := by decide +kernel
theorem dX5_longestBehind_15 : decode cX5_longestBehind 15 = .ok (.imul, 1) := by decide +kernel
theorem dX5_longestBehind_16 : decode cX5_longestBehind 16 = .ok (.if_icmp .ge 32, 3) := by decide +kernel
theorem dX5_longestBehind_19 : decode cX5_longestBehind 19 = .ok (.aload_n 0, 1) := by decide +kernel
theorem dX5_longestBehind_20 : decode cX5_longestBehind 20 = .ok (.iload_n 1, 1) := by decide +kernel
theorem dX5_longestBehind_21 : decode cX5_longestBehind 21 = .ok (.iload_n 2, 1) := by decide +kernel
theorem dX5_longestBehind_22 : decode cX5_longestBehind 22 = .ok (.iload 4, 2) := by decide +kernel
theorem dX5_longestBehind_24 : decode cX5_longestBehind 24 = .ok (.invokevirtual 100, 3) := by decide +kernel
theorem dX5_longestBehind_27 : decode cX5_longestBehind 27 = .ok (.ifCond .eq 15, 3) := by decide +kernel
theorem dX5_longestBehind_30 : decode cX5_longestBehind 30 = .ok (.iload_n 3, 1) := by decide +kernel
theorem dX5_longestBehind_31 : decode cX5_longestBehind 31 = .ok (.aload_n 0, 1) := by decide +kernel
theorem dX5_longestBehind_32 : decode cX5_longestBehind 32 = .ok (.iload_n 1, 1) := by decide +kernel
theorem dX5_longestBehind_33 : decode cX5_longestBehind 33 = .ok (.iload 4, 2) := by decide +kernel
theorem dX5_longestBehind_35 : decode cX5_longestBehind 35 = .ok (.invokevirtual 104, 3) := by decide +kernel
theorem dX5_longestBehind_38 : decode cX5_longestBehind 38 = .ok (.invokestatic 107, 3) := by decide +kernel
theorem dX5_longestBehind_41 : decode cX5_longestBehind 41 = .ok (.istore_n 3, 1) := by decide +kernel
theorem dX5_longestBehind_42 : decode cX5_longestBehind 42 = .ok (.iinc 4 1, 3) := by decide +kernel
theorem dX5_longestBehind_45 : decode cX5_longestBehind 45 = .ok (.goto (-40), 3) := by decide +kernel
theorem dX5_longestBehind_48 : decode cX5_longestBehind 48 = .ok (.iload_n 3, 1) := by decide +kernel
theorem dX5_longestBehind_49 : decode cX5_longestBehind 49 = .ok (.ireturn, 1) := by decide +kernel
theorem dX5_longWith_0 : decode cX5_longWith 0 = .ok (.iload_n 1, 1) := by decide +kernel
theorem dX5_longWith_1 : decode cX5_longWith 1 = .ok (.iconst 1, 1) := by decide +kernel
theorem dX5_longWith_2 : decode cX5_longWith 2 = .ok (.iload_n 2, 1) := by decide +kernel
theorem dX5_longWith_3 : decode cX5_longWith 3 = .ok (.iconst 1, 1) := by decide +kernel
theorem dX5_longWith_4 : decode cX5_longWith 4 = .ok (.ishr, 1) := by decide +kernel
theorem dX5_longWith_5 : decode cX5_longWith 5 = .ok (.ishl, 1) := by decide +kernel
theorem dX5_longWith_6 : decode cX5_longWith 6 = .ok (.ior, 1) := by decide +kernel
theorem dX5_longWith_7 : decode cX5_longWith 7 = .ok (.istore_n 3, 1) := by decide +kernel
theorem dX5_longWith_8 : decode cX5_longWith 8 = .ok (.aload_n 0, 1) := by decide +kernel
theorem dX5_longWith_9 : decode cX5_longWith 9 = .ok (.getfield 38, 3) := by decide +kernel
theorem dX5_longWith_12 : decode cX5_longWith 12 = .ok (.getfield 70, 3) := by decide +kernel
theorem dX5_longWith_15 : decode cX5_longWith 15 = .ok (.iload_n 2, 1) := by decide +kernel
theorem dX5_longWith_16 : decode cX5_longWith 16 = .ok (.iconst 1, 1) := by decide +kernel
theorem dX5_longWith_17 : decode cX5_longWith 17 = .ok (.ishr, 1) := by decide +kernel
theorem dX5_longWith_18 : decode cX5_longWith 18 = .ok (.invokestatic 75, 3) := by decide +kernel
theorem dX5_longWith_21 : decode cX5_longWith 21 = .ok (.aload_n 0, 1) := by decide +kernel
theorem dX5_longWith_22 : decode cX5_longWith 22 = .ok (.getfield 15, 3) := by decide +kernel
theorem dX5_longWith_25 : decode cX5_longWith 25 = .ok (.iload_n 3, 1) := by decide +kernel
theorem dX5_longWith_26 : decode cX5_longWith 26 = .ok (.bipush 12, 2) := by decide +kernel
theorem dX5_longWith_28 : decode cX5_longWith 28 = .ok (.imul, 1) := by decide +kernel
theorem dX5_longWith_29 : decode cX5_longWith 29 = .ok (.iload_n 2, 1) := by decide +kernel
theorem dX5_longWith_30 : decode cX5_longWith 30 = .ok (.iadd, 1) := by decide +kernel
theorem dX5_longWith_31 : decode cX5_longWith 31 = .ok (.invokestatic 75, 3) := by decide +kernel
theorem dX5_longWith_34 : decode cX5_longWith 34 = .ok (.iadd, 1) := by decide +kernel
theorem dX5_longWith_35 : decode cX5_longWith 35 = .ok (.ireturn, 1) := by decide +kernel
theorem dX5_firstLeaving_0 : decode cX5_firstLeaving 0 = .ok (.iconst 0, 1) := by decide +kernel
theorem dX5_firstLeaving_1 : decode cX5_firstLeaving 1 = .ok (.istore 4, 2) := by decide +kernel
theorem dX5_firstLeaving_3 : decode cX5_firstLeaving 3 = .ok (.iload 4, 2) := by decide +kernel
theorem dX5_firstLeaving_5 : decode cX5_firstLeaving 5 = .ok (.iconst 2, 1) := by decide +kernel
theorem dX5_firstLeaving_6 : decode cX5_firstLeaving 6 = .ok (.aload_n 0, 1) := by decide +kernel
theorem dX5_firstLeaving_7 : decode cX5_firstLeaving 7 = .ok (.getfield 38, 3) := by decide +kernel
theorem dX5_firstLeaving_10 : decode cX5_firstLeaving 10 = .ok (.getfield 79, 3) := by decide +kernel
theorem dX5_firstLeaving_13 : decode cX5_firstLeaving 13 = .ok (.imul, 1) := by decide +kernel
theorem dX5_firstLeaving_14 : decode cX5_firstLeaving 14 = .ok (.if_icmp .ge 34, 3) := by decide +kernel
theorem dX5_firstLeaving_17 : decode cX5_firstLeaving 17 = .ok (.aload_n 0, 1) := by decide +kernel
theorem dX5_firstLeaving_18 : decode cX5_firstLeaving 18 = .ok (.iload_n 1, 1) := by decide +kernel
theorem dX5_firstLeaving_19 : decode cX5_firstLeaving 19 = .ok (.iload_n 2, 1) := by decide +kernel
theorem dX5_firstLeaving_20 : decode cX5_firstLeaving 20 = .ok (.iload 4, 2) := by decide +kernel
theorem dX5_firstLeaving_22 : decode cX5_firstLeaving 22 = .ok (.invokevirtual 100, 3) := by decide +kernel
theorem dX5_firstLeaving_25 : decode cX5_firstLeaving 25 = .ok (.ifCond .eq 17, 3) := by decide +kernel
theorem dX5_firstLeaving_28 : decode cX5_firstLeaving 28 = .ok (.aload_n 0, 1) := by decide +kernel
theorem dX5_firstLeaving_29 : decode cX5_firstLeaving 29 = .ok (.iload_n 1, 1) := by decide +kernel
theorem dX5_firstLeaving_30 : decode cX5_firstLeaving 30 = .ok (.iload 4, 2) := by decide +kernel
theorem dX5_firstLeaving_32 : decode cX5_firstLeaving 32 = .ok (.invokevirtual 104, 3) := by decide +kernel
theorem dX5_firstLeaving_35 : decode cX5_firstLeaving 35 = .ok (.iload_n 3, 1) := by decide +kernel
theorem dX5_firstLeaving_36 : decode cX5_firstLeaving 36 = .ok (.if_icmp .ne 6, 3) := by decide +kernel
theorem dX5_firstLeaving_39 : decode cX5_firstLeaving 39 = .ok (.iload 4, 2) := by decide +kernel
theorem dX5_firstLeaving_41 : decode cX5_firstLeaving 41 = .ok (.ireturn, 1) := by decide +kernel
theorem dX5_firstLeaving_42 : decode cX5_firstLeaving 42 = .ok (.iinc 4 1, 3) := by decide +kernel
theorem dX5_firstLeaving_45 : decode cX5_firstLeaving 45 = .ok (.goto (-42), 3) := by decide +kernel
theorem dX5_firstLeaving_48 : decode cX5_firstLeaving 48 = .ok (.iconst 0, 1) := by decide +kernel
theorem dX5_firstLeaving_49 : decode cX5_firstLeaving 49 = .ok (.ireturn, 1) := by decide +kernel
theorem dX5_canFollow_0 : decode cX5_canFollow 0 = .ok (.iload_n 1, 1) := by decide +kernel
theorem dX5_canFollow_1 : decode cX5_canFollow 1 = .ok (.iload_n 3, 1) := by decide +kernel
theorem dX5_canFollow_2 : decode cX5_canFollow 2 = .ok (.iconst 1, 1) := by decide +kernel
theorem dX5_canFollow_3 : decode cX5_canFollow 3 = .ok (.ishr, 1) := by decide +kernel
theorem dX5_canFollow_4 : decode cX5_canFollow 4 = .ok (.invokestatic 89, 3) := by decide +kernel
theorem dX5_canFollow_7 : decode cX5_canFollow 7 = .ok (.ifCond .ne 28, 3) := by decide +kernel
theorem dX5_canFollow_10 : decode cX5_canFollow 10 = .ok (.iload_n 2, 1) := by decide +kernel
theorem dX5_canFollow_11 : decode cX5_canFollow 11 = .ok (.iconst (-1), 1) := by decide +kernel
theorem dX5_canFollow_12 : decode cX5_canFollow 12 = .ok (.if_icmp .eq 19, 3) := by decide +kernel
theorem dX5_canFollow_15 : decode cX5_canFollow 15 = .ok (.aload_n 0, 1) := by decide +kernel
theorem dX5_canFollow_16 : decode cX5_canFollow 16 = .ok (.getfield 11, 3) := by decide +kernel
theorem dX5_canFollow_19 : decode cX5_canFollow 19 = .ok (.iload_n 2, 1) := by decide +kernel
theorem dX5_canFollow_20 : decode cX5_canFollow 20 = .ok (.invokestatic 75, 3) := by decide +kernel
theorem dX5_canFollow_23 : decode cX5_canFollow 23 = .ok (.iload_n 3, 1) := by decide +kernel
theorem dX5_canFollow_24 : decode cX5_canFollow 24 = .ok (.invokestatic 89, 3) := by decide +kernel
theorem dX5_canFollow_27 : decode cX5_canFollow 27 = .ok (.iconst 1, 1) := by decide +kernel
theorem dX5_canFollow_28 : decode cX5_canFollow 28 = .ok (.if_icmp .ne 7, 3) := by decide +kernel
theorem dX5_canFollow_31 : decode cX5_canFollow 31 = .ok (.iconst 1, 1) := by decide +kernel
theorem dX5_canFollow_32 : decode cX5_canFollow 32 = .ok (.goto 4, 3) := by decide +kernel
theorem dX5_canFollow_35 : decode cX5_canFollow 35 = .ok (.iconst 0, 1) := by decide +kernel
theorem dX5_canFollow_36 : decode cX5_canFollow 36 = .ok (.ireturn, 1) := by decide +kernel
theorem dX5_findCollar_0 : decode cX5_findCollar 0 = .ok (.aload_n 0, 1) := by decide +kernel
theorem dX5_findCollar_1 : decode cX5_findCollar 1 = .ok (.getfield 50, 3) := by decide +kernel
theorem dX5_findCollar_4 : decode cX5_findCollar 4 = .ok (.ifCond .eq 4, 3) := by decide +kernel
theorem dX5_findCollar_7 : decode cX5_findCollar 7 = .ok (.return_, 1) := by decide +kernel
theorem dX5_findCollar_8 : decode cX5_findCollar 8 = .ok (.aload_n 0, 1) := by decide +kernel
theorem dX5_findCollar_9 : decode cX5_findCollar 9 = .ok (.iconst (-1), 1) := by decide +kernel
theorem dX5_findCollar_10 : decode cX5_findCollar 10 = .ok (.putfield 112, 3) := by decide +kernel
theorem dX5_findCollar_13 : decode cX5_findCollar 13 = .ok (.aload_n 0, 1) := by decide +kernel
theorem dX5_findCollar_14 : decode cX5_findCollar 14 = .ok (.iconst (-1), 1) := by decide +kernel
theorem dX5_findCollar_15 : decode cX5_findCollar 15 = .ok (.putfield 115, 3) := by decide +kernel
theorem dX5_findCollar_18 : decode cX5_findCollar 18 = .ok (.iconst 0, 1) := by decide +kernel
theorem dX5_findCollar_19 : decode cX5_findCollar 19 = .ok (.istore_n 1, 1) := by decide +kernel
theorem dX5_findCollar_20 : decode cX5_findCollar 20 = .ok (.iload_n 1, 1) := by decide +kernel
theorem dX5_findCollar_21 : decode cX5_findCollar 21 = .ok (.bipush 10, 2) := by decide +kernel
theorem dX5_findCollar_23 : decode cX5_findCollar 23 = .ok (.if_icmp .ge 43, 3) := by decide +kernel
theorem dX5_findCollar_26 : decode cX5_findCollar 26 = .ok (.iload_n 1, 1) := by decide +kernel
theorem dX5_findCollar_27 : decode cX5_findCollar 27 = .ok (.iconst 1, 1) := by decide +kernel
theorem dX5_findCollar_28 : decode cX5_findCollar 28 = .ok (.iadd, 1) := by decide +kernel
theorem dX5_findCollar_29 : decode cX5_findCollar 29 = .ok (.istore_n 2, 1) := by decide +kernel
theorem dX5_findCollar_30 : decode cX5_findCollar 30 = .ok (.iload_n 2, 1) := by decide +kernel
theorem dX5_findCollar_31 : decode cX5_findCollar 31 = .ok (.bipush 10, 2) := by decide +kernel
theorem dX5_findCollar_33 : decode cX5_findCollar 33 = .ok (.if_icmp .ge 27, 3) := by decide +kernel
theorem dX5_findCollar_36 : decode cX5_findCollar 36 = .ok (.aload_n 0, 1) := by decide +kernel
theorem dX5_findCollar_37 : decode cX5_findCollar 37 = .ok (.getfield 38, 3) := by decide +kernel
theorem dX5_findCollar_40 : decode cX5_findCollar 40 = .ok (.iload_n 1, 1) := by decide +kernel
theorem dX5_findCollar_41 : decode cX5_findCollar 41 = .ok (.iload_n 2, 1) := by decide +kernel
theorem dX5_findCollar_42 : decode cX5_findCollar 42 = .ok (.invokevirtual 118, 3) := by decide +kernel
theorem dX5_findCollar_45 : decode cX5_findCollar 45 = .ok (.ifCond .ne 9, 3) := by decide +kernel
theorem dX5_findCollar_48 : decode cX5_findCollar 48 = .ok (.aload_n 0, 1) := by decide +kernel
theorem dX5_findCollar_49 : decode cX5_findCollar 49 = .ok (.iload_n 1, 1) := by decide +kernel
theorem dX5_findCollar_50 : decode cX5_findCollar 50 = .ok (.iload_n 2, 1) := by decide +kernel
theorem dX5_findCollar_51 : decode cX5_findCollar 51 = .ok (.invokevirtual 121, 3) := by decide +kernel
theorem dX5_findCollar_54 : decode cX5_findCollar 54 = .ok (.iinc 2 1, 3) := by decide +kernel
theorem dX5_findCollar_57 : decode cX5_findCollar 57 = .ok (.goto (-27), 3) := by decide +kernel
theorem dX5_findCollar_60 : decode cX5_findCollar 60 = .ok (.iinc 1 1, 3) := by decide +kernel
theorem dX5_findCollar_63 : decode cX5_findCollar 63 = .ok (.goto (-43), 3) := by decide +kernel
theorem dX5_findCollar_66 : decode cX5_findCollar 66 = .ok (.aload_n 0, 1) := by decide +kernel
theorem dX5_findCollar_67 : decode cX5_findCollar 67 = .ok (.iconst 1, 1) := by decide +kernel
theorem dX5_findCollar_68 : decode cX5_findCollar 68 = .ok (.putfield 50, 3) := by decide +kernel
theorem dX5_findCollar_71 : decode cX5_findCollar 71 = .ok (.return_, 1) := by decide +kernel
theorem dX5_tryCollar_0 : decode cX5_tryCollar 0 = .ok (.aload_n 0, 1) := by decide +kernel
theorem dX5_tryCollar_1 : decode cX5_tryCollar 1 = .ok (.getfield 38, 3) := by decide +kernel
theorem dX5_tryCollar_4 : decode cX5_tryCollar 4 = .ok (.iload_n 1, 1) := by decide +kernel
theorem dX5_tryCollar_5 : decode cX5_tryCollar 5 = .ok (.iload_n 2, 1) := by decide +kernel
theorem dX5_tryCollar_6 : decode cX5_tryCollar 6 = .ok (.invokevirtual 125, 3) := by decide +kernel
theorem dX5_tryCollar_9 : decode cX5_tryCollar 9 = .ok (.aload_n 0, 1) := by decide +kernel
theorem dX5_tryCollar_10 : decode cX5_tryCollar 10 = .ok (.invokevirtual 56, 3) := by decide +kernel
theorem dX5_tryCollar_13 : decode cX5_tryCollar 13 = .ok (.istore_n 3, 1) := by decide +kernel
theorem dX5_tryCollar_14 : decode cX5_tryCollar 14 = .ok (.aload_n 0, 1) := by decide +kernel
theorem dX5_tryCollar_15 : decode cX5_tryCollar 15 = .ok (.getfield 38, 3) := by decide +kernel
theorem dX5_tryCollar_18 : decode cX5_tryCollar 18 = .ok (.iload_n 1, 1) := by decide +kernel
theorem dX5_tryCollar_19 : decode cX5_tryCollar 19 = .ok (.iload_n 2, 1) := by decide +kernel
theorem dX5_tryCollar_20 : decode cX5_tryCollar 20 = .ok (.invokevirtual 128, 3) := by decide +kernel
theorem dX5_tryCollar_23 : decode cX5_tryCollar 23 = .ok (.iload_n 3, 1) := by decide +kernel
theorem dX5_tryCollar_24 : decode cX5_tryCollar 24 = .ok (.aload_n 0, 1) := by decide +kernel
theorem dX5_tryCollar_25 : decode cX5_tryCollar 25 = .ok (.getfield 112, 3) := by decide +kernel
theorem dX5_tryCollar_28 : decode cX5_tryCollar 28 = .ok (.if_icmp .le 18, 3) := by decide +kernel
theorem dX5_tryCollar_31 : decode cX5_tryCollar 31 = .ok (.aload_n 0, 1) := by decide +kernel
theorem dX5_tryCollar_32 : decode cX5_tryCollar 32 = .ok (.iload_n 3, 1) := by decide +kernel
theorem dX5_tryCollar_33 : decode cX5_tryCollar 33 = .ok (.putfield 112, 3) := by decide +kernel
theorem dX5_tryCollar_36 : decode cX5_tryCollar 36 = .ok (.aload_n 0, 1) := by decide +kernel
theorem dX5_tryCollar_37 : decode cX5_tryCollar 37 = .ok (.bipush 10, 2) := by decide +kernel
theorem dX5_tryCollar_39 : decode cX5_tryCollar 39 = .ok (.iload_n 1, 1) := by decide +kernel
theorem dX5_tryCollar_40 : decode cX5_tryCollar 40 = .ok (.imul, 1) := by decide +kernel
theorem dX5_tryCollar_41 : decode cX5_tryCollar 41 = .ok (.iload_n 2, 1) := by decide +kernel
theorem dX5_tryCollar_42 : decode cX5_tryCollar 42 = .ok (.iadd, 1) := by decide +kernel
theorem dX5_tryCollar_43 : decode cX5_tryCollar 43 = .ok (.putfield 115, 3) := by decide +kernel
theorem dX5_tryCollar_46 : decode cX5_tryCollar 46 = .ok (.return_, 1) := by decide +kernel
theorem dX5_findShort_0 : decode cX5_findShort 0 = .ok (.aload_n 0, 1) := by decide +kernel
theorem dX5_findShort_1 : decode cX5_findShort 1 = .ok (.getfield 21, 3) := by decide +kernel
theorem dX5_findShort_4 : decode cX5_findShort 4 = .ok (.iload_n 2, 1) := by decide +kernel
theorem dX5_findShort_5 : decode cX5_findShort 5 = .ok (.if_icmp .ne 4, 3) := by decide +kernel
theorem dX5_findShort_8 : decode cX5_findShort 8 = .ok (.return_, 1) := by decide +kernel
theorem dX5_findShort_9 : decode cX5_findShort 9 = .ok (.aload_n 0, 1) := by decide +kernel
theorem dX5_findShort_10 : decode cX5_findShort 10 = .ok (.iload_n 2, 1) := by decide +kernel
theorem dX5_findShort_11 : decode cX5_findShort 11 = .ok (.putfield 21, 3) := by decide +kernel
theorem dX5_findShort_14 : decode cX5_findShort 14 = .ok (.aload_n 0, 1) := by decide +kernel
theorem dX5_findShort_15 : decode cX5_findShort 15 = .ok (.iconst (-1), 1) := by decide +kernel
theorem dX5_findShort_16 : decode cX5_findShort 16 = .ok (.putfield 131, 3) := by decide +kernel
theorem dX5_findShort_19 : decode cX5_findShort 19 = .ok (.aload_n 0, 1) := by decide +kernel
theorem dX5_findShort_20 : decode cX5_findShort 20 = .ok (.invokevirtual 86, 3) := by decide +kernel
theorem dX5_findShort_23 : decode cX5_findShort 23 = .ok (.aload_n 0, 1) := by decide +kernel
theorem dX5_findShort_24 : decode cX5_findShort 24 = .ok (.getfield 31, 3) := by decide +kernel
theorem dX5_findShort_27 : decode cX5_findShort 27 = .ok (.lconst 0, 1) := by decide +kernel
theorem dX5_findShort_28 : decode cX5_findShort 28 = .ok (.invokestatic 134, 3) := by decide +kernel
theorem dX5_findShort_31 : decode cX5_findShort 31 = .ok (.aload_n 0, 1) := by decide +kernel
theorem dX5_findShort_32 : decode cX5_findShort 32 = .ok (.aload_n 1, 1) := by decide +kernel
theorem dX5_findShort_33 : decode cX5_findShort 33 = .ok (.iconst 0, 1) := by decide +kernel
theorem dX5_findShort_34 : decode cX5_findShort 34 = .ok (.iconst 0, 1) := by decide +kernel
theorem dX5_findShort_35 : decode cX5_findShort 35 = .ok (.iconst (-1), 1) := by decide +kernel
theorem dX5_findShort_36 : decode cX5_findShort 36 = .ok (.aload_n 1, 1) := by decide +kernel
theorem dX5_findShort_37 : decode cX5_findShort 37 = .ok (.getfield 140, 3) := by decide +kernel
theorem dX5_findShort_40 : decode cX5_findShort 40 = .ok (.iconst 0, 1) := by decide +kernel
theorem dX5_findShort_41 : decode cX5_findShort 41 = .ok (.invokevirtual 145, 3) := by decide +kernel
theorem dX5_findShort_44 : decode cX5_findShort 44 = .ok (.return_, 1) := by decide +kernel
theorem dX5_searchShort_0 : decode cX5_searchShort 0 = .ok (.aload_n 0, 1) := by decide +kernel
theorem dX5_searchShort_1 : decode cX5_searchShort 1 = .ok (.getfield 38, 3) := by decide +kernel
theorem dX5_searchShort_4 : decode cX5_searchShort 4 = .ok (.aload_n 0, 1) := by decide +kernel
theorem dX5_searchShort_5 : decode cX5_searchShort 5 = .ok (.getfield 21, 3) := by decide +kernel
theorem dX5_searchShort_8 : decode cX5_searchShort 8 = .ok (.iload 6, 2) := by decide +kernel
theorem dX5_searchShort_10 : decode cX5_searchShort 10 = .ok (.iload 5, 2) := by decide +kernel
theorem dX5_searchShort_12 : decode cX5_searchShort 12 = .ok (.invokevirtual 149, 3) := by decide +kernel
theorem dX5_searchShort_15 : decode cX5_searchShort 15 = .ok (.ifCond .eq 24, 3) := by decide +kernel
theorem dX5_searchShort_18 : decode cX5_searchShort 18 = .ok (.aload_n 0, 1) := by decide +kernel
theorem dX5_searchShort_19 : decode cX5_searchShort 19 = .ok (.iload_n 2, 1) := by decide +kernel
theorem dX5_searchShort_20 : decode cX5_searchShort 20 = .ok (.putfield 131, 3) := by decide +kernel
theorem dX5_searchShort_23 : decode cX5_searchShort 23 = .ok (.aload_n 0, 1) := by decide +kernel
theorem dX5_searchShort_24 : decode cX5_searchShort 24 = .ok (.getfield 28, 3) := by decide +kernel
theorem dX5_searchShort_27 : decode cX5_searchShort 27 = .ok (.iconst 0, 1) := by decide +kernel
theorem dX5_searchShort_28 : decode cX5_searchShort 28 = .ok (.aload_n 0, 1) := by decide +kernel
theorem dX5_searchShort_29 : decode cX5_searchShort 29 = .ok (.getfield 25, 3) := by decide +kernel
theorem dX5_searchShort_32 : decode cX5_searchShort 32 = .ok (.iconst 0, 1) := by decide +kernel
theorem dX5_searchShort_33 : decode cX5_searchShort 33 = .ok (.bipush 6, 2) := by decide +kernel
theorem dX5_searchShort_35 : decode cX5_searchShort 35 = .ok (.invokestatic 152, 3) := by decide +kernel
theorem dX5_searchShort_38 : decode cX5_searchShort 38 = .ok (.return_, 1) := by decide +kernel
theorem dX5_searchShort_39 : decode cX5_searchShort 39 = .ok (.iconst 0, 1) := by decide +kernel
theorem dX5_searchShort_40 : decode cX5_searchShort 40 = .ok (.istore 7, 2) := by decide +kernel
theorem dX5_searchShort_42 : decode cX5_searchShort 42 = .ok (.iload 7, 2) := by decide +kernel
theorem dX5_searchShort_44 : decode cX5_searchShort 44 = .ok (.iconst 2, 1) := by decide +kernel
theorem dX5_searchShort_45 : decode cX5_searchShort 45 = .ok (.aload_n 0, 1) := by decide +kernel
theorem dX5_searchShort_46 : decode cX5_searchShort 46 = .ok (.getfield 38, 3) := by decide +kernel
theorem dX5_searchShort_49 : decode cX5_searchShort 49 = .ok (.getfield 79, 3) := by decide +kernel
theorem dX5_searchShort_52 : decode cX5_searchShort 52 = .ok (.imul, 1) := by decide +kernel
theorem dX5_searchShort_53 : decode cX5_searchShort 53 = .ok (.if_icmp .ge 142, 3) := by decide +kernel
theorem dX5_searchShort_56 : decode cX5_searchShort 56 = .ok (.iload_n 2, 1) := by decide +kernel
theorem dX5_searchShort_57 : decode cX5_searchShort 57 = .ok (.bipush 6, 2) := by decide +kernel
theorem dX5_searchShort_59 : decode cX5_searchShort 59 = .ok (.if_icmp .ge 21, 3) := by decide +kernel
theorem dX5_searchShort_62 : decode cX5_searchShort 62 = .ok (.aload_n 0, 1) := by decide +kernel
theorem dX5_searchShort_63 : decode cX5_searchShort 63 = .ok (.getfield 131, 3) := by decide +kernel
theorem dX5_searchShort_66 : decode cX5_searchShort 66 = .ok (.iconst (-1), 1) := by decide +kernel
theorem dX5_searchShort_67 : decode cX5_searchShort 67 = .ok (.if_icmp .eq 14, 3) := by decide +kernel
theorem dX5_searchShort_70 : decode cX5_searchShort 70 = .ok (.iload_n 2, 1) := by decide +kernel
theorem dX5_searchShort_71 : decode cX5_searchShort 71 = .ok (.iconst 1, 1) := by decide +kernel
theorem dX5_searchShort_72 : decode cX5_searchShort 72 = .ok (.iadd, 1) := by decide +kernel
theorem dX5_searchShort_73 : decode cX5_searchShort 73 = .ok (.aload_n 0, 1) := by decide +kernel
theorem dX5_searchShort_74 : decode cX5_searchShort 74 = .ok (.getfield 131, 3) := by decide +kernel
theorem dX5_searchShort_77 : decode cX5_searchShort 77 = .ok (.if_icmp .lt 4, 3) := by decide +kernel
theorem dX5_searchShort_80 : decode cX5_searchShort 80 = .ok (.return_, 1) := by decide +kernel
theorem dX5_searchShort_81 : decode cX5_searchShort 81 = .ok (.aload_n 0, 1) := by decide +kernel
theorem dX5_searchShort_82 : decode cX5_searchShort 82 = .ok (.iload_n 3, 1) := by decide +kernel
theorem dX5_searchShort_83 : decode cX5_searchShort 83 = .ok (.iload 4, 2) := by decide +kernel
theorem dX5_searchShort_85 : decode cX5_searchShort 85 = .ok (.iload 7, 2) := by decide +kernel
theorem dX5_searchShort_87 : decode cX5_searchShort 87 = .ok (.invokevirtual 100, 3) := by decide +kernel
theorem dX5_searchShort_90 : decode cX5_searchShort 90 = .ok (.ifCond .ne 6, 3) := by decide +kernel
theorem dX5_searchShort_93 : decode cX5_searchShort 93 = .ok (.goto 96, 3) := by decide +kernel
theorem dX5_searchShort_96 : decode cX5_searchShort 96 = .ok (.iload 7, 2) := by decide +kernel
theorem dX5_searchShort_98 : decode cX5_searchShort 98 = .ok (.iconst 1, 1) := by decide +kernel
theorem dX5_searchShort_99 : decode cX5_searchShort 99 = .ok (.ishr, 1) := by decide +kernel
theorem dX5_searchShort_100 : decode cX5_searchShort 100 = .ok (.istore 8, 2) := by decide +kernel
theorem dX5_searchShort_102 : decode cX5_searchShort 102 = .ok (.iload_n 3, 1) := by decide +kernel
theorem dX5_searchShort_103 : decode cX5_searchShort 103 = .ok (.iconst 1, 1) := by decide +kernel
theorem dX5_searchShort_104 : decode cX5_searchShort 104 = .ok (.iload 8, 2) := by decide +kernel
theorem dX5_searchShort_106 : decode cX5_searchShort 106 = .ok (.ishl, 1) := by decide +kernel
theorem dX5_searchShort_107 : decode cX5_searchShort 107 = .ok (.ior, 1) := by decide +kernel
theorem dX5_searchShort_108 : decode cX5_searchShort 108 = .ok (.istore 9, 2) := by decide +kernel
theorem dX5_searchShort_110 : decode cX5_searchShort 110 = .ok (.aload_n 0, 1) := by decide +kernel
theorem dX5_searchShort_111 : decode cX5_searchShort 111 = .ok (.getfield 42, 3) := by decide +kernel
theorem dX5_searchShort_114 : decode cX5_searchShort 114 = .ok (.aload_n 1, 1) := by decide +kernel
theorem dX5_searchShort_115 : decode cX5_searchShort 115 = .ok (.iload 7, 2) := by decide +kernel
theorem dX5_searchShort_117 : decode cX5_searchShort 117 = .ok (.iload_n 2, 1) := by decide +kernel
theorem dX5_searchShort_118 : decode cX5_searchShort 118 = .ok (.iload 5, 2) := by decide +kernel
theorem dX5_searchShort_120 : decode cX5_searchShort 120 = .ok (.aload_n 1, 1) := by decide +kernel
theorem dX5_searchShort_121 : decode cX5_searchShort 121 = .ok (.getfield 140, 3) := by decide +kernel
theorem dX5_searchShort_124 : decode cX5_searchShort 124 = .ok (.invokevirtual 158, 3) := by decide +kernel
theorem dX5_searchShort_127 : decode cX5_searchShort 127 = .ok (.istore 10, 2) := by decide +kernel
theorem dX5_searchShort_129 : decode cX5_searchShort 129 = .ok (.aload_n 0, 1) := by decide +kernel
theorem dX5_searchShort_130 : decode cX5_searchShort 130 = .ok (.iload 9, 2) := by decide +kernel
theorem dX5_searchShort_132 : decode cX5_searchShort 132 = .ok (.bipush 12, 2) := by decide +kernel
theorem dX5_searchShort_134 : decode cX5_searchShort 134 = .ok (.imul, 1) := by decide +kernel
theorem dX5_searchShort_135 : decode cX5_searchShort 135 = .ok (.iload 7, 2) := by decide +kernel
theorem dX5_searchShort_137 : decode cX5_searchShort 137 = .ok (.iadd, 1) := by decide +kernel
theorem dX5_searchShort_138 : decode cX5_searchShort 138 = .ok (.bipush 100, 2) := by decide +kernel
theorem dX5_searchShort_140 : decode cX5_searchShort 140 = .ok (.imul, 1) := by decide +kernel
theorem dX5_searchShort_141 : decode cX5_searchShort 141 = .ok (.iload 10, 2) := by decide +kernel
theorem dX5_searchShort_143 : decode cX5_searchShort 143 = .ok (.iadd, 1) := by decide +kernel
theorem dX5_searchShort_144 : decode cX5_searchShort 144 = .ok (.invokevirtual 164, 3) := by decide +kernel
theorem dX5_searchShort_147 : decode cX5_searchShort 147 = .ok (.ifCond .eq 42, 3) := by decide +kernel
theorem dX5_searchShort_150 : decode cX5_searchShort 150 = .ok (.aload_n 0, 1) := by decide +kernel
theorem dX5_searchShort_151 : decode cX5_searchShort 151 = .ok (.getfield 28, 3) := by decide +kernel
theorem dX5_searchShort_154 : decode cX5_searchShort 154 = .ok (.iload_n 2, 1) := by decide +kernel
theorem dX5_searchShort_155 : decode cX5_searchShort 155 = .ok (.iload 7, 2) := by decide +kernel
theorem dX5_searchShort_157 : decode cX5_searchShort 157 = .ok (.invokestatic 96, 3) := by decide +kernel
theorem dX5_searchShort_160 : decode cX5_searchShort 160 = .ok (.aload_n 0, 1) := by decide +kernel
theorem dX5_searchShort_161 : decode cX5_searchShort 161 = .ok (.aload_n 1, 1) := by decide +kernel
theorem dX5_searchShort_162 : decode cX5_searchShort 162 = .ok (.iload_n 2, 1) := by decide +kernel
theorem dX5_searchShort_163 : decode cX5_searchShort 163 = .ok (.iconst 1, 1) := by decide +kernel
theorem dX5_searchShort_164 : decode cX5_searchShort 164 = .ok (.iadd, 1) := by decide +kernel
theorem dX5_searchShort_165 : decode cX5_searchShort 165 = .ok (.iload 9, 2) := by decide +kernel
theorem dX5_searchShort_167 : decode cX5_searchShort 167 = .ok (.iload 7, 2) := by decide +kernel
theorem dX5_searchShort_169 : decode cX5_searchShort 169 = .ok (.iload 10, 2) := by decide +kernel
theorem dX5_searchShort_171 : decode cX5_searchShort 171 = .ok (.iload 6, 2) := by decide +kernel
theorem dX5_searchShort_173 : decode cX5_searchShort 173 = .ok (.aload_n 0, 1) := by decide +kernel
theorem dX5_searchShort_174 : decode cX5_searchShort 174 = .ok (.getfield 38, 3) := by decide +kernel
theorem dX5_searchShort_177 : decode cX5_searchShort 177 = .ok (.getfield 70, 3) := by decide +kernel
theorem dX5_searchShort_180 : decode cX5_searchShort 180 = .ok (.iload 8, 2) := by decide +kernel
theorem dX5_searchShort_182 : decode cX5_searchShort 182 = .ok (.invokestatic 75, 3) := by decide +kernel
theorem dX5_searchShort_185 : decode cX5_searchShort 185 = .ok (.iadd, 1) := by decide +kernel
theorem dX5_searchShort_186 : decode cX5_searchShort 186 = .ok (.invokevirtual 145, 3) := by decide +kernel
theorem dX5_searchShort_189 : decode cX5_searchShort 189 = .ok (.iinc 7 1, 3) := by decide +kernel
theorem dX5_searchShort_192 : decode cX5_searchShort 192 = .ok (.goto (-150), 3) := by decide +kernel
theorem dX5_searchShort_195 : decode cX5_searchShort 195 = .ok (.return_, 1) := by decide +kernel
theorem dX5_isNew_0 : decode cX5_isNew 0 = .ok (.iload_n 1, 1) := by decide +kernel
theorem dX5_isNew_1 : decode cX5_isNew 1 = .ok (.ifCond .lt 9, 3) := by decide +kernel
theorem dX5_isNew_4 : decode cX5_isNew 4 = .ok (.iload_n 1, 1) := by decide +kernel
theorem dX5_isNew_5 : decode cX5_isNew 5 = .ok (.ldc 168, 2) := by decide +kernel
theorem dX5_isNew_7 : decode cX5_isNew 7 = .ok (.if_icmp .lt 5, 3) := by decide +kernel
theorem dX5_isNew_10 : decode cX5_isNew 10 = .ok (.iconst 0, 1) := by decide +kernel
theorem dX5_isNew_11 : decode cX5_isNew 11 = .ok (.ireturn, 1) := by decide +kernel
theorem dX5_isNew_12 : decode cX5_isNew 12 = .ok (.lconst 1, 1) := by decide +kernel
theorem dX5_isNew_13 : decode cX5_isNew 13 = .ok (.iload_n 1, 1) := by decide +kernel
theorem dX5_isNew_14 : decode cX5_isNew 14 = .ok (.bipush 63, 2) := by decide +kernel
theorem dX5_isNew_16 : decode cX5_isNew 16 = .ok (.iand, 1) := by decide +kernel
theorem dX5_isNew_17 : decode cX5_isNew 17 = .ok (.lshl, 1) := by decide +kernel
theorem dX5_isNew_18 : decode cX5_isNew 18 = .ok (.lstore_n 2, 1) := by decide +kernel
theorem dX5_isNew_19 : decode cX5_isNew 19 = .ok (.aload_n 0, 1) := by decide +kernel
theorem dX5_isNew_20 : decode cX5_isNew 20 = .ok (.getfield 31, 3) := by decide +kernel
theorem dX5_isNew_23 : decode cX5_isNew 23 = .ok (.iload_n 1, 1) := by decide +kernel
theorem dX5_isNew_24 : decode cX5_isNew 24 = .ok (.bipush 6, 2) := by decide +kernel
theorem dX5_isNew_26 : decode cX5_isNew 26 = .ok (.ishr, 1) := by decide +kernel
theorem dX5_isNew_27 : decode cX5_isNew 27 = .ok (.laload, 1) := by decide +kernel
theorem dX5_isNew_28 : decode cX5_isNew 28 = .ok (.lload_n 2, 1) := by decide +kernel
theorem dX5_isNew_29 : decode cX5_isNew 29 = .ok (.land, 1) := by decide +kernel
theorem dX5_isNew_30 : decode cX5_isNew 30 = .ok (.lconst 0, 1) := by decide +kernel
theorem dX5_isNew_31 : decode cX5_isNew 31 = .ok (.lcmp, 1) := by decide +kernel
theorem dX5_isNew_32 : decode cX5_isNew 32 = .ok (.ifCond .ne 7, 3) := by decide +kernel
theorem dX5_isNew_35 : decode cX5_isNew 35 = .ok (.iconst 1, 1) := by decide +kernel
theorem dX5_isNew_36 : decode cX5_isNew 36 = .ok (.goto 4, 3) := by decide +kernel
theorem dX5_isNew_39 : decode cX5_isNew 39 = .ok (.iconst 0, 1) := by decide +kernel
theorem dX5_isNew_40 : decode cX5_isNew 40 = .ok (.istore 4, 2) := by decide +kernel
theorem dX5_isNew_42 : decode cX5_isNew 42 = .ok (.aload_n 0, 1) := by decide +kernel
theorem dX5_isNew_43 : decode cX5_isNew 43 = .ok (.getfield 31, 3) := by decide +kernel
theorem dX5_isNew_46 : decode cX5_isNew 46 = .ok (.iload_n 1, 1) := by decide +kernel
theorem dX5_isNew_47 : decode cX5_isNew 47 = .ok (.bipush 6, 2) := by decide +kernel
theorem dX5_isNew_49 : decode cX5_isNew 49 = .ok (.ishr, 1) := by decide +kernel
theorem dX5_isNew_50 : decode cX5_isNew 50 = .ok (.dup2, 1) := by decide +kernel
theorem dX5_isNew_51 : decode cX5_isNew 51 = .ok (.laload, 1) := by decide +kernel
theorem dX5_isNew_52 : decode cX5_isNew 52 = .ok (.lload_n 2, 1) := by decide +kernel
theorem dX5_isNew_53 : decode cX5_isNew 53 = .ok (.lor, 1) := by decide +kernel
theorem dX5_isNew_54 : decode cX5_isNew 54 = .ok (.lastore, 1) := by decide +kernel
theorem dX5_isNew_55 : decode cX5_isNew 55 = .ok (.iload 4, 2) := by decide +kernel
theorem dX5_isNew_57 : decode cX5_isNew 57 = .ok (.ireturn, 1) := by decide +kernel
theorem dX5_mostPairs_0 : decode cX5_mostPairs 0 = .ok (.iconst 1, 1) := by decide +kernel
theorem dX5_mostPairs_1 : decode cX5_mostPairs 1 = .ok (.aload_n 0, 1) := by decide +kernel
theorem dX5_mostPairs_2 : decode cX5_mostPairs 2 = .ok (.getfield 38, 3) := by decide +kernel
theorem dX5_mostPairs_5 : decode cX5_mostPairs 5 = .ok (.getfield 79, 3) := by decide +kernel
theorem dX5_mostPairs_8 : decode cX5_mostPairs 8 = .ok (.ishl, 1) := by decide +kernel
theorem dX5_mostPairs_9 : decode cX5_mostPairs 9 = .ok (.iconst 1, 1) := by decide +kernel
theorem dX5_mostPairs_10 : decode cX5_mostPairs 10 = .ok (.isub, 1) := by decide +kernel
theorem dX5_mostPairs_11 : decode cX5_mostPairs 11 = .ok (.istore_n 1, 1) := by decide +kernel
theorem dX5_mostPairs_12 : decode cX5_mostPairs 12 = .ok (.iconst 1, 1) := by decide +kernel
theorem dX5_mostPairs_13 : decode cX5_mostPairs 13 = .ok (.istore_n 2, 1) := by decide +kernel
theorem dX5_mostPairs_14 : decode cX5_mostPairs 14 = .ok (.iload_n 2, 1) := by decide +kernel
theorem dX5_mostPairs_15 : decode cX5_mostPairs 15 = .ok (.iload_n 1, 1) := by decide +kernel
theorem dX5_mostPairs_16 : decode cX5_mostPairs 16 = .ok (.if_icmp .gt 117, 3) := by decide +kernel
theorem dX5_mostPairs_19 : decode cX5_mostPairs 19 = .ok (.iload_n 2, 1) := by decide +kernel
theorem dX5_mostPairs_20 : decode cX5_mostPairs 20 = .ok (.bipush 64, 2) := by decide +kernel
theorem dX5_mostPairs_22 : decode cX5_mostPairs 22 = .ok (.if_icmp .ge 111, 3) := by decide +kernel
theorem dX5_mostPairs_25 : decode cX5_mostPairs 25 = .ok (.iload_n 2, 1) := by decide +kernel
theorem dX5_mostPairs_26 : decode cX5_mostPairs 26 = .ok (.invokestatic 169, 3) := by decide +kernel
theorem dX5_mostPairs_29 : decode cX5_mostPairs 29 = .ok (.istore_n 3, 1) := by decide +kernel
theorem dX5_mostPairs_30 : decode cX5_mostPairs 30 = .ok (.iload_n 2, 1) := by decide +kernel
theorem dX5_mostPairs_31 : decode cX5_mostPairs 31 = .ok (.iconst 1, 1) := by decide +kernel
theorem dX5_mostPairs_32 : decode cX5_mostPairs 32 = .ok (.iload_n 3, 1) := by decide +kernel
theorem dX5_mostPairs_33 : decode cX5_mostPairs 33 = .ok (.ishl, 1) := by decide +kernel
theorem dX5_mostPairs_34 : decode cX5_mostPairs 34 = .ok (.iconst (-1), 1) := by decide +kernel
theorem dX5_mostPairs_35 : decode cX5_mostPairs 35 = .ok (.ixor, 1) := by decide +kernel
theorem dX5_mostPairs_36 : decode cX5_mostPairs 36 = .ok (.iand, 1) := by decide +kernel
theorem dX5_mostPairs_37 : decode cX5_mostPairs 37 = .ok (.istore 4, 2) := by decide +kernel
theorem dX5_mostPairs_39 : decode cX5_mostPairs 39 = .ok (.aload_n 0, 1) := by decide +kernel
theorem dX5_mostPairs_40 : decode cX5_mostPairs 40 = .ok (.getfield 35, 3) := by decide +kernel
theorem dX5_mostPairs_43 : decode cX5_mostPairs 43 = .ok (.iload 4, 2) := by decide +kernel
theorem dX5_mostPairs_45 : decode cX5_mostPairs 45 = .ok (.invokestatic 75, 3) := by decide +kernel
theorem dX5_mostPairs_48 : decode cX5_mostPairs 48 = .ok (.istore 5, 2) := by decide +kernel
theorem dX5_mostPairs_50 : decode cX5_mostPairs 50 = .ok (.iload_n 3, 1) := by decide +kernel
theorem dX5_mostPairs_51 : decode cX5_mostPairs 51 = .ok (.iconst 1, 1) := by decide +kernel
theorem dX5_mostPairs_52 : decode cX5_mostPairs 52 = .ok (.iadd, 1) := by decide +kernel
theorem dX5_mostPairs_53 : decode cX5_mostPairs 53 = .ok (.istore 6, 2) := by decide +kernel
theorem dX5_mostPairs_55 : decode cX5_mostPairs 55 = .ok (.iload 6, 2) := by decide +kernel
theorem dX5_mostPairs_57 : decode cX5_mostPairs 57 = .ok (.aload_n 0, 1) := by decide +kernel
theorem dX5_mostPairs_58 : decode cX5_mostPairs 58 = .ok (.getfield 38, 3) := by decide +kernel
theorem dX5_mostPairs_61 : decode cX5_mostPairs 61 = .ok (.getfield 79, 3) := by decide +kernel
theorem dX5_mostPairs_64 : decode cX5_mostPairs 64 = .ok (.if_icmp .ge 55, 3) := by decide +kernel
theorem dX5_mostPairs_67 : decode cX5_mostPairs 67 = .ok (.iload 4, 2) := by decide +kernel
theorem dX5_mostPairs_69 : decode cX5_mostPairs 69 = .ok (.iload 6, 2) := by decide +kernel
theorem dX5_mostPairs_71 : decode cX5_mostPairs 71 = .ok (.invokestatic 89, 3) := by decide +kernel
theorem dX5_mostPairs_74 : decode cX5_mostPairs 74 = .ok (.iconst 1, 1) := by decide +kernel
theorem dX5_mostPairs_75 : decode cX5_mostPairs 75 = .ok (.if_icmp .ne 38, 3) := by decide +kernel
theorem dX5_mostPairs_78 : decode cX5_mostPairs 78 = .ok (.aload_n 0, 1) := by decide +kernel
theorem dX5_mostPairs_79 : decode cX5_mostPairs 79 = .ok (.iload_n 3, 1) := by decide +kernel
theorem dX5_mostPairs_80 : decode cX5_mostPairs 80 = .ok (.iload 6, 2) := by decide +kernel
theorem dX5_mostPairs_82 : decode cX5_mostPairs 82 = .ok (.invokevirtual 173, 3) := by decide +kernel
theorem dX5_mostPairs_85 : decode cX5_mostPairs 85 = .ok (.ifCond .eq 28, 3) := by decide +kernel
theorem dX5_mostPairs_88 : decode cX5_mostPairs 88 = .ok (.iload 5, 2) := by decide +kernel
theorem dX5_mostPairs_90 : decode cX5_mostPairs 90 = .ok (.iconst 1, 1) := by decide +kernel
theorem dX5_mostPairs_91 : decode cX5_mostPairs 91 = .ok (.aload_n 0, 1) := by decide +kernel
theorem dX5_mostPairs_92 : decode cX5_mostPairs 92 = .ok (.getfield 35, 3) := by decide +kernel
theorem dX5_mostPairs_95 : decode cX5_mostPairs 95 = .ok (.iload 4, 2) := by decide +kernel
theorem dX5_mostPairs_97 : decode cX5_mostPairs 97 = .ok (.iconst 1, 1) := by decide +kernel
theorem dX5_mostPairs_98 : decode cX5_mostPairs 98 = .ok (.iload 6, 2) := by decide +kernel
theorem dX5_mostPairs_100 : decode cX5_mostPairs 100 = .ok (.ishl, 1) := by decide +kernel
theorem dX5_mostPairs_101 : decode cX5_mostPairs 101 = .ok (.iconst (-1), 1) := by decide +kernel
theorem dX5_mostPairs_102 : decode cX5_mostPairs 102 = .ok (.ixor, 1) := by decide +kernel
theorem dX5_mostPairs_103 : decode cX5_mostPairs 103 = .ok (.iand, 1) := by decide +kernel
theorem dX5_mostPairs_104 : decode cX5_mostPairs 104 = .ok (.invokestatic 75, 3) := by decide +kernel
theorem dX5_mostPairs_107 : decode cX5_mostPairs 107 = .ok (.iadd, 1) := by decide +kernel
theorem dX5_mostPairs_108 : decode cX5_mostPairs 108 = .ok (.invokestatic 107, 3) := by decide +kernel
theorem dX5_mostPairs_111 : decode cX5_mostPairs 111 = .ok (.istore 5, 2) := by decide +kernel
theorem dX5_mostPairs_113 : decode cX5_mostPairs 113 = .ok (.iinc 6 1, 3) := by decide +kernel
theorem dX5_mostPairs_116 : decode cX5_mostPairs 116 = .ok (.goto (-61), 3) := by decide +kernel
theorem dX5_mostPairs_119 : decode cX5_mostPairs 119 = .ok (.aload_n 0, 1) := by decide +kernel
theorem dX5_mostPairs_120 : decode cX5_mostPairs 120 = .ok (.getfield 35, 3) := by decide +kernel
theorem dX5_mostPairs_123 : decode cX5_mostPairs 123 = .ok (.iload_n 2, 1) := by decide +kernel
theorem dX5_mostPairs_124 : decode cX5_mostPairs 124 = .ok (.iload 5, 2) := by decide +kernel
theorem dX5_mostPairs_126 : decode cX5_mostPairs 126 = .ok (.iastore, 1) := by decide +kernel
theorem dX5_mostPairs_127 : decode cX5_mostPairs 127 = .ok (.iinc 2 1, 3) := by decide +kernel
theorem dX5_mostPairs_130 : decode cX5_mostPairs 130 = .ok (.goto (-116), 3) := by decide +kernel
theorem dX5_mostPairs_133 : decode cX5_mostPairs 133 = .ok (.aload_n 0, 1) := by decide +kernel
theorem dX5_mostPairs_134 : decode cX5_mostPairs 134 = .ok (.getfield 35, 3) := by decide +kernel
theorem dX5_mostPairs_137 : decode cX5_mostPairs 137 = .ok (.iload_n 1, 1) := by decide +kernel
theorem dX5_mostPairs_138 : decode cX5_mostPairs 138 = .ok (.invokestatic 75, 3) := by decide +kernel
theorem dX5_mostPairs_141 : decode cX5_mostPairs 141 = .ok (.ireturn, 1) := by decide +kernel
theorem dX5_leastOf_0 : decode cX5_leastOf 0 = .ok (.iconst 0, 1) := by decide +kernel
theorem dX5_leastOf_1 : decode cX5_leastOf 1 = .ok (.istore_n 1, 1) := by decide +kernel
theorem dX5_leastOf_2 : decode cX5_leastOf 2 = .ok (.iload_n 1, 1) := by decide +kernel
theorem dX5_leastOf_3 : decode cX5_leastOf 3 = .ok (.bipush 6, 2) := by decide +kernel
theorem dX5_leastOf_5 : decode cX5_leastOf 5 = .ok (.if_icmp .ge 20, 3) := by decide +kernel
theorem dX5_leastOf_8 : decode cX5_leastOf 8 = .ok (.iload_n 0, 1) := by decide +kernel
theorem dX5_leastOf_9 : decode cX5_leastOf 9 = .ok (.iload_n 1, 1) := by decide +kernel
theorem dX5_leastOf_10 : decode cX5_leastOf 10 = .ok (.invokestatic 89, 3) := by decide +kernel
theorem dX5_leastOf_13 : decode cX5_leastOf 13 = .ok (.iconst 1, 1) := by decide +kernel
theorem dX5_leastOf_14 : decode cX5_leastOf 14 = .ok (.if_icmp .ne 5, 3) := by decide +kernel
theorem dX5_leastOf_17 : decode cX5_leastOf 17 = .ok (.iload_n 1, 1) := by decide +kernel
theorem dX5_leastOf_18 : decode cX5_leastOf 18 = .ok (.ireturn, 1) := by decide +kernel
theorem dX5_leastOf_19 : decode cX5_leastOf 19 = .ok (.iinc 1 1, 3) := by decide +kernel
theorem dX5_leastOf_22 : decode cX5_leastOf 22 = .ok (.goto (-20), 3) := by decide +kernel
theorem dX5_leastOf_25 : decode cX5_leastOf 25 = .ok (.iconst 0, 1) := by decide +kernel
theorem dX5_leastOf_26 : decode cX5_leastOf 26 = .ok (.ireturn, 1) := by decide +kernel
theorem dX5_areFit_0 : decode cX5_areFit 0 = .ok (.aload_n 0, 1) := by decide +kernel
theorem dX5_areFit_1 : decode cX5_areFit 1 = .ok (.getfield 38, 3) := by decide +kernel
theorem dX5_areFit_4 : decode cX5_areFit 4 = .ok (.iconst 2, 1) := by decide +kernel
theorem dX5_areFit_5 : decode cX5_areFit 5 = .ok (.iload_n 1, 1) := by decide +kernel
theorem dX5_areFit_6 : decode cX5_areFit 6 = .ok (.imul, 1) := by decide +kernel
theorem dX5_areFit_7 : decode cX5_areFit 7 = .ok (.iconst 2, 1) := by decide +kernel
theorem dX5_areFit_8 : decode cX5_areFit 8 = .ok (.iload_n 2, 1) := by decide +kernel
theorem dX5_areFit_9 : decode cX5_areFit 9 = .ok (.imul, 1) := by decide +kernel
theorem dX5_areFit_10 : decode cX5_areFit 10 = .ok (.invokevirtual 82, 3) := by decide +kernel
theorem dX5_areFit_13 : decode cX5_areFit 13 = .ok (.ifCond .ne 19, 3) := by decide +kernel
theorem dX5_areFit_16 : decode cX5_areFit 16 = .ok (.aload_n 0, 1) := by decide +kernel
theorem dX5_areFit_17 : decode cX5_areFit 17 = .ok (.getfield 38, 3) := by decide +kernel
theorem dX5_areFit_20 : decode cX5_areFit 20 = .ok (.iconst 2, 1) := by decide +kernel
theorem dX5_areFit_21 : decode cX5_areFit 21 = .ok (.iload_n 2, 1) := by decide +kernel
theorem dX5_areFit_22 : decode cX5_areFit 22 = .ok (.imul, 1) := by decide +kernel
theorem dX5_areFit_23 : decode cX5_areFit 23 = .ok (.iconst 2, 1) := by decide +kernel
theorem dX5_areFit_24 : decode cX5_areFit 24 = .ok (.iload_n 1, 1) := by decide +kernel
theorem dX5_areFit_25 : decode cX5_areFit 25 = .ok (.imul, 1) := by decide +kernel
theorem dX5_areFit_26 : decode cX5_areFit 26 = .ok (.invokevirtual 82, 3) := by decide +kernel
theorem dX5_areFit_29 : decode cX5_areFit 29 = .ok (.ifCond .eq 7, 3) := by decide +kernel
theorem dX5_areFit_32 : decode cX5_areFit 32 = .ok (.iconst 1, 1) := by decide +kernel
theorem dX5_areFit_33 : decode cX5_areFit 33 = .ok (.goto 4, 3) := by decide +kernel
theorem dX5_areFit_36 : decode cX5_areFit 36 = .ok (.iconst 0, 1) := by decide +kernel
theorem dX5_areFit_37 : decode cX5_areFit 37 = .ok (.ireturn, 1) := by decide +kernel
theorem dX6_init_0 : decode cX6_init 0 = .ok (.aload_n 0, 1) := by decide +kernel
theorem dX6_init_1 : decode cX6_init 1 = .ok (.invokespecial 3, 3) := by decide +kernel
theorem dX6_init_4 : decode cX6_init 4 = .ok (.aload_n 0, 1) := by decide +kernel
theorem dX6_init_5 : decode cX6_init 5 = .ok (.bipush 49, 2) := by decide +kernel
theorem dX6_init_7 : decode cX6_init 7 = .ok (.newarray .int, 2) := by decide +kernel
theorem dX6_init_9 : decode cX6_init 9 = .ok (.putfield 11, 3) := by decide +kernel
theorem dX6_init_12 : decode cX6_init 12 = .ok (.aload_n 0, 1) := by decide +kernel
theorem dX6_init_13 : decode cX6_init 13 = .ok (.aload_n 1, 1) := by decide +kernel
theorem dX6_init_14 : decode cX6_init 14 = .ok (.putfield 15, 3) := by decide +kernel
theorem dX6_init_17 : decode cX6_init 17 = .ok (.return_, 1) := by decide +kernel
theorem dX6_findRests_0 : decode cX6_findRests 0 = .ok (.aload_n 0, 1) := by decide +kernel
theorem dX6_findRests_1 : decode cX6_findRests 1 = .ok (.aload_n 1, 1) := by decide +kernel
theorem dX6_findRests_2 : decode cX6_findRests 2 = .ok (.getfield 19, 3) := by decide +kernel
theorem dX6_findRests_5 : decode cX6_findRests 5 = .ok (.putfield 25, 3) := by decide +kernel
theorem dX6_findRests_8 : decode cX6_findRests 8 = .ok (.aload_n 0, 1) := by decide +kernel
theorem dX6_findRests_9 : decode cX6_findRests 9 = .ok (.iload_n 2, 1) := by decide +kernel
theorem dX6_findRests_10 : decode cX6_findRests 10 = .ok (.putfield 28, 3) := by decide +kernel
theorem dX6_findRests_13 : decode cX6_findRests 13 = .ok (.aload_n 0, 1) := by decide +kernel
theorem dX6_findRests_14 : decode cX6_findRests 14 = .ok (.iconst 0, 1) := by decide +kernel
theorem dX6_findRests_15 : decode cX6_findRests 15 = .ok (.putfield 31, 3) := by decide +kernel
theorem dX6_findRests_18 : decode cX6_findRests 18 = .ok (.aload_n 0, 1) := by decide +kernel
theorem dX6_findRests_19 : decode cX6_findRests 19 = .ok (.iconst (-1), 1) := by decide +kernel
theorem dX6_findRests_20 : decode cX6_findRests 20 = .ok (.putfield 34, 3) := by decide +kernel
theorem dX6_findRests_23 : decode cX6_findRests 23 = .ok (.aload_n 0, 1) := by decide +kernel
theorem dX6_findRests_24 : decode cX6_findRests 24 = .ok (.aload_n 1, 1) := by decide +kernel
theorem dX6_findRests_25 : decode cX6_findRests 25 = .ok (.invokevirtual 37, 3) := by decide +kernel
theorem dX6_findRests_28 : decode cX6_findRests 28 = .ok (.iconst 0, 1) := by decide +kernel
theorem dX6_findRests_29 : decode cX6_findRests 29 = .ok (.istore_n 3, 1) := by decide +kernel
theorem dX6_findRests_30 : decode cX6_findRests 30 = .ok (.iload_n 3, 1) := by decide +kernel
theorem dX6_findRests_31 : decode cX6_findRests 31 = .ok (.aload_n 0, 1) := by decide +kernel
theorem dX6_findRests_32 : decode cX6_findRests 32 = .ok (.getfield 25, 3) := by decide +kernel
theorem dX6_findRests_35 : decode cX6_findRests 35 = .ok (.if_icmp .gt 55, 3) := by decide +kernel
theorem dX6_findRests_38 : decode cX6_findRests 38 = .ok (.iconst 0, 1) := by decide +kernel
theorem dX6_findRests_39 : decode cX6_findRests 39 = .ok (.istore 4, 2) := by decide +kernel
theorem dX6_findRests_41 : decode cX6_findRests 41 = .ok (.iload 4, 2) := by decide +kernel
theorem dX6_findRests_43 : decode cX6_findRests 43 = .ok (.aload_n 0, 1) := by decide +kernel
theorem dX6_findRests_44 : decode cX6_findRests 44 = .ok (.getfield 25, 3) := by decide +kernel
theorem dX6_findRests_47 : decode cX6_findRests 47 = .ok (.if_icmp .gt 37, 3) := by decide +kernel
theorem dX6_findRests_50 : decode cX6_findRests 50 = .ok (.aload_n 0, 1) := by decide +kernel
theorem dX6_findRests_51 : decode cX6_findRests 51 = .ok (.aload_n 1, 1) := by decide +kernel
theorem dX6_findRests_52 : decode cX6_findRests 52 = .ok (.iload 4, 2) := by decide +kernel
theorem dX6_findRests_54 : decode cX6_findRests 54 = .ok (.invokevirtual 41, 3) := by decide +kernel
theorem dX6_findRests_57 : decode cX6_findRests 57 = .ok (.ifCond .eq 21, 3) := by decide +kernel
theorem dX6_findRests_60 : decode cX6_findRests 60 = .ok (.aload_n 0, 1) := by decide +kernel
theorem dX6_findRests_61 : decode cX6_findRests 61 = .ok (.aload_n 1, 1) := by decide +kernel
theorem dX6_findRests_62 : decode cX6_findRests 62 = .ok (.iload_n 3, 1) := by decide +kernel
theorem dX6_findRests_63 : decode cX6_findRests 63 = .ok (.iload 4, 2) := by decide +kernel
theorem dX6_findRests_65 : decode cX6_findRests 65 = .ok (.invokevirtual 45, 3) := by decide +kernel
theorem dX6_findRests_68 : decode cX6_findRests 68 = .ok (.ifCond .eq 10, 3) := by decide +kernel
theorem dX6_findRests_71 : decode cX6_findRests 71 = .ok (.aload_n 0, 1) := by decide +kernel
theorem dX6_findRests_72 : decode cX6_findRests 72 = .ok (.iload_n 3, 1) := by decide +kernel
theorem dX6_findRests_73 : decode cX6_findRests 73 = .ok (.iload 4, 2) := by decide +kernel
theorem dX6_findRests_75 : decode cX6_findRests 75 = .ok (.invokevirtual 49, 3) := by decide +kernel
theorem dX6_findRests_78 : decode cX6_findRests 78 = .ok (.iinc 4 1, 3) := by decide +kernel
theorem dX6_findRests_81 : decode cX6_findRests 81 = .ok (.goto (-40), 3) := by decide +kernel
theorem dX6_findRests_84 : decode cX6_findRests 84 = .ok (.iinc 3 1, 3) := by decide +kernel
theorem dX6_findRests_87 : decode cX6_findRests 87 = .ok (.goto (-57), 3) := by decide +kernel
theorem dX6_findRests_90 : decode cX6_findRests 90 = .ok (.return_, 1) := by decide +kernel
theorem dX6_fillArrives_0 : decode cX6_fillArrives 0 = .ok (.iconst 0, 1) := by decide +kernel
theorem dX6_fillArrives_1 : decode cX6_fillArrives 1 = .ok (.istore_n 2, 1) := by decide +kernel
theorem dX6_fillArrives_2 : decode cX6_fillArrives 2 = .ok (.iload_n 2, 1) := by decide +kernel
theorem dX6_fillArrives_3 : decode cX6_fillArrives 3 = .ok (.aload_n 0, 1) := by decide +kernel
theorem dX6_fillArrives_4 : decode cX6_fillArrives 4 = .ok (.getfield 25, 3) := by decide +kernel
theorem dX6_fillArrives_7 : decode cX6_fillArrives 7 = .ok (.if_icmp .gt 83, 3) := by decide +kernel
theorem dX6_fillArrives_10 : decode cX6_fillArrives 10 = .ok (.iconst 0, 1) := by decide +kernel
theorem dX6_fillArrives_11 : decode cX6_fillArrives 11 = .ok (.istore_n 3, 1) := by decide +kernel
theorem dX6_fillArrives_12 : decode cX6_fillArrives 12 = .ok (.iload_n 3, 1) := by decide +kernel
theorem dX6_fillArrives_13 : decode cX6_fillArrives 13 = .ok (.aload_n 0, 1) := by decide +kernel
theorem dX6_fillArrives_14 : decode cX6_fillArrives 14 = .ok (.getfield 25, 3) := by decide +kernel
theorem dX6_fillArrives_17 : decode cX6_fillArrives 17 = .ok (.if_icmp .gt 67, 3) := by decide +kernel
theorem dX6_fillArrives_20 : decode cX6_fillArrives 20 = .ok (.aload_n 0, 1) := by decide +kernel
theorem dX6_fillArrives_21 : decode cX6_fillArrives 21 = .ok (.aload_n 1, 1) := by decide +kernel
theorem dX6_fillArrives_22 : decode cX6_fillArrives 22 = .ok (.iload_n 3, 1) := by decide +kernel
theorem dX6_fillArrives_23 : decode cX6_fillArrives 23 = .ok (.invokevirtual 41, 3) := by decide +kernel
theorem dX6_fillArrives_26 : decode cX6_fillArrives 26 = .ok (.ifCond .eq 52, 3) := by decide +kernel
theorem dX6_fillArrives_29 : decode cX6_fillArrives 29 = .ok (.aload_n 0, 1) := by decide +kernel
theorem dX6_fillArrives_30 : decode cX6_fillArrives 30 = .ok (.iload_n 2, 1) := by decide +kernel
theorem dX6_fillArrives_31 : decode cX6_fillArrives 31 = .ok (.iconst 1, 1) := by decide +kernel
theorem dX6_fillArrives_32 : decode cX6_fillArrives 32 = .ok (.invokevirtual 53, 3) := by decide +kernel
theorem dX6_fillArrives_35 : decode cX6_fillArrives 35 = .ok (.aload_n 0, 1) := by decide +kernel
theorem dX6_fillArrives_36 : decode cX6_fillArrives 36 = .ok (.iload_n 3, 1) := by decide +kernel
theorem dX6_fillArrives_37 : decode cX6_fillArrives 37 = .ok (.iconst (-1), 1) := by decide +kernel
theorem dX6_fillArrives_38 : decode cX6_fillArrives 38 = .ok (.invokevirtual 53, 3) := by decide +kernel
theorem dX6_fillArrives_41 : decode cX6_fillArrives 41 = .ok (.aload_n 0, 1) := by decide +kernel
theorem dX6_fillArrives_42 : decode cX6_fillArrives 42 = .ok (.getfield 11, 3) := by decide +kernel
theorem dX6_fillArrives_45 : decode cX6_fillArrives 45 = .ok (.iload_n 2, 1) := by decide +kernel
theorem dX6_fillArrives_46 : decode cX6_fillArrives 46 = .ok (.bipush 7, 2) := by decide +kernel
theorem dX6_fillArrives_48 : decode cX6_fillArrives 48 = .ok (.imul, 1) := by decide +kernel
theorem dX6_fillArrives_49 : decode cX6_fillArrives 49 = .ok (.iload_n 3, 1) := by decide +kernel
theorem dX6_fillArrives_50 : decode cX6_fillArrives 50 = .ok (.iadd, 1) := by decide +kernel
theorem dX6_fillArrives_51 : decode cX6_fillArrives 51 = .ok (.aload_n 0, 1) := by decide +kernel
theorem dX6_fillArrives_52 : decode cX6_fillArrives 52 = .ok (.getfield 15, 3) := by decide +kernel
theorem dX6_fillArrives_55 : decode cX6_fillArrives 55 = .ok (.aload_n 1, 1) := by decide +kernel
theorem dX6_fillArrives_56 : decode cX6_fillArrives 56 = .ok (.aload_n 1, 1) := by decide +kernel
theorem dX6_fillArrives_57 : decode cX6_fillArrives 57 = .ok (.getfield 56, 3) := by decide +kernel
theorem dX6_fillArrives_60 : decode cX6_fillArrives 60 = .ok (.invokevirtual 59, 3) := by decide +kernel
theorem dX6_fillArrives_63 : decode cX6_fillArrives 63 = .ok (.invokestatic 65, 3) := by decide +kernel
theorem dX6_fillArrives_66 : decode cX6_fillArrives 66 = .ok (.aload_n 0, 1) := by decide +kernel
theorem dX6_fillArrives_67 : decode cX6_fillArrives 67 = .ok (.iload_n 2, 1) := by decide +kernel
theorem dX6_fillArrives_68 : decode cX6_fillArrives 68 = .ok (.iconst (-1), 1) := by decide +kernel
theorem dX6_fillArrives_69 : decode cX6_fillArrives 69 = .ok (.invokevirtual 53, 3) := by decide +kernel
theorem dX6_fillArrives_72 : decode cX6_fillArrives 72 = .ok (.aload_n 0, 1) := by decide +kernel
theorem dX6_fillArrives_73 : decode cX6_fillArrives 73 = .ok (.iload_n 3, 1) := by decide +kernel
theorem dX6_fillArrives_74 : decode cX6_fillArrives 74 = .ok (.iconst 1, 1) := by decide +kernel
theorem dX6_fillArrives_75 : decode cX6_fillArrives 75 = .ok (.invokevirtual 53, 3) := by decide +kernel
theorem dX6_fillArrives_78 : decode cX6_fillArrives 78 = .ok (.iinc 3 1, 3) := by decide +kernel
theorem dX6_fillArrives_81 : decode cX6_fillArrives 81 = .ok (.goto (-69), 3) := by decide +kernel
theorem dX6_fillArrives_84 : decode cX6_fillArrives 84 = .ok (.iinc 2 1, 3) := by decide +kernel
theorem dX6_fillArrives_87 : decode cX6_fillArrives 87 = .ok (.goto (-85), 3) := by decide +kernel
theorem dX6_fillArrives_90 : decode cX6_fillArrives 90 = .ok (.return_, 1) := by decide +kernel
theorem dX6_bendMore_0 : decode cX6_bendMore 0 = .ok (.aload_n 0, 1) := by decide +kernel
theorem dX6_bendMore_1 : decode cX6_bendMore 1 = .ok (.getfield 15, 3) := by decide +kernel
theorem dX6_bendMore_4 : decode cX6_bendMore 4 = .ok (.getfield 69, 3) := by decide +kernel
theorem dX6_bendMore_7 : decode cX6_bendMore 7 = .ok (.iload_n 1, 1) := by decide +kernel
theorem dX6_bendMore_8 : decode cX6_bendMore 8 = .ok (.aload_n 0, 1) := by decide +kernel
theorem dX6_bendMore_9 : decode cX6_bendMore 9 = .ok (.getfield 15, 3) := by decide +kernel
theorem dX6_bendMore_12 : decode cX6_bendMore 12 = .ok (.getfield 69, 3) := by decide +kernel
theorem dX6_bendMore_15 : decode cX6_bendMore 15 = .ok (.iload_n 1, 1) := by decide +kernel
theorem dX6_bendMore_16 : decode cX6_bendMore 16 = .ok (.invokestatic 72, 3) := by decide +kernel
theorem dX6_bendMore_19 : decode cX6_bendMore 19 = .ok (.iload_n 2, 1) := by decide +kernel
theorem dX6_bendMore_20 : decode cX6_bendMore 20 = .ok (.iadd, 1) := by decide +kernel
theorem dX6_bendMore_21 : decode cX6_bendMore 21 = .ok (.invokestatic 65, 3) := by decide +kernel
theorem dX6_bendMore_24 : decode cX6_bendMore 24 = .ok (.return_, 1) := by decide +kernel
theorem dX6_canTake_0 : decode cX6_canTake 0 = .ok (.iload_n 2, 1) := by decide +kernel
theorem dX6_canTake_1 : decode cX6_canTake 1 = .ok (.aload_n 0, 1) := by decide +kernel
theorem dX6_canTake_2 : decode cX6_canTake 2 = .ok (.getfield 25, 3) := by decide +kernel
theorem dX6_canTake_5 : decode cX6_canTake 5 = .ok (.if_icmp .eq 21, 3) := by decide +kernel
theorem dX6_canTake_8 : decode cX6_canTake 8 = .ok (.aload_n 1, 1) := by decide +kernel
theorem dX6_canTake_9 : decode cX6_canTake 9 = .ok (.getfield 76, 3) := by decide +kernel
theorem dX6_canTake_12 : decode cX6_canTake 12 = .ok (.aload_n 1, 1) := by decide +kernel
theorem dX6_canTake_13 : decode cX6_canTake 13 = .ok (.getfield 79, 3) := by decide +kernel
theorem dX6_canTake_16 : decode cX6_canTake 16 = .ok (.iload_n 2, 1) := by decide +kernel
theorem dX6_canTake_17 : decode cX6_canTake 17 = .ok (.invokestatic 72, 3) := by decide +kernel
theorem dX6_canTake_20 : decode cX6_canTake 20 = .ok (.invokestatic 72, 3) := by decide +kernel
theorem dX6_canTake_23 : decode cX6_canTake 23 = .ok (.ifCond .le 7, 3) := by decide +kernel
theorem dX6_canTake_26 : decode cX6_canTake 26 = .ok (.iconst 1, 1) := by decide +kernel
theorem dX6_canTake_27 : decode cX6_canTake 27 = .ok (.goto 4, 3) := by decide +kernel
theorem dX6_canTake_30 : decode cX6_canTake 30 = .ok (.iconst 0, 1) := by decide +kernel
theorem dX6_canTake_31 : decode cX6_canTake 31 = .ok (.ireturn, 1) := by decide +kernel
theorem dX6_isRest_0 : decode cX6_isRest 0 = .ok (.iconst 0, 1) := by decide +kernel
theorem dX6_isRest_1 : decode cX6_isRest 1 = .ok (.istore 4, 2) := by decide +kernel
theorem dX6_isRest_3 : decode cX6_isRest 3 = .ok (.iload 4, 2) := by decide +kernel
theorem dX6_isRest_5 : decode cX6_isRest 5 = .ok (.aload_n 0, 1) := by decide +kernel
theorem dX6_isRest_6 : decode cX6_isRest 6 = .ok (.getfield 25, 3) := by decide +kernel
theorem dX6_isRest_9 : decode cX6_isRest 9 = .ok (.if_icmp .gt 55, 3) := by decide +kernel
theorem dX6_isRest_12 : decode cX6_isRest 12 = .ok (.aload_n 0, 1) := by decide +kernel
theorem dX6_isRest_13 : decode cX6_isRest 13 = .ok (.iload 4, 2) := by decide +kernel
theorem dX6_isRest_15 : decode cX6_isRest 15 = .ok (.iload_n 3, 1) := by decide +kernel
theorem dX6_isRest_16 : decode cX6_isRest 16 = .ok (.invokevirtual 82, 3) := by decide +kernel
theorem dX6_isRest_19 : decode cX6_isRest 19 = .ok (.aload_n 0, 1) := by decide +kernel
theorem dX6_isRest_20 : decode cX6_isRest 20 = .ok (.iload_n 2, 1) := by decide +kernel
theorem dX6_isRest_21 : decode cX6_isRest 21 = .ok (.iload_n 3, 1) := by decide +kernel
theorem dX6_isRest_22 : decode cX6_isRest 22 = .ok (.invokevirtual 82, 3) := by decide +kernel
theorem dX6_isRest_25 : decode cX6_isRest 25 = .ok (.if_icmp .le 5, 3) := by decide +kernel
theorem dX6_isRest_28 : decode cX6_isRest 28 = .ok (.iconst 0, 1) := by decide +kernel
theorem dX6_isRest_29 : decode cX6_isRest 29 = .ok (.ireturn, 1) := by decide +kernel
theorem dX6_isRest_30 : decode cX6_isRest 30 = .ok (.aload_n 0, 1) := by decide +kernel
theorem dX6_isRest_31 : decode cX6_isRest 31 = .ok (.aload_n 1, 1) := by decide +kernel
theorem dX6_isRest_32 : decode cX6_isRest 32 = .ok (.iload 4, 2) := by decide +kernel
theorem dX6_isRest_34 : decode cX6_isRest 34 = .ok (.invokevirtual 41, 3) := by decide +kernel
theorem dX6_isRest_37 : decode cX6_isRest 37 = .ok (.ifCond .eq 21, 3) := by decide +kernel
theorem dX6_isRest_40 : decode cX6_isRest 40 = .ok (.aload_n 0, 1) := by decide +kernel
theorem dX6_isRest_41 : decode cX6_isRest 41 = .ok (.iload_n 2, 1) := by decide +kernel
theorem dX6_isRest_42 : decode cX6_isRest 42 = .ok (.iload 4, 2) := by decide +kernel
theorem dX6_isRest_44 : decode cX6_isRest 44 = .ok (.invokevirtual 86, 3) := by decide +kernel
theorem dX6_isRest_47 : decode cX6_isRest 47 = .ok (.aload_n 0, 1) := by decide +kernel
theorem dX6_isRest_48 : decode cX6_isRest 48 = .ok (.iload_n 2, 1) := by decide +kernel
theorem dX6_isRest_49 : decode cX6_isRest 49 = .ok (.iload_n 3, 1) := by decide +kernel
theorem dX6_isRest_50 : decode cX6_isRest 50 = .ok (.invokevirtual 86, 3) := by decide +kernel
theorem dX6_isRest_53 : decode cX6_isRest 53 = .ok (.if_icmp .le 5, 3) := by decide +kernel
theorem dX6_isRest_56 : decode cX6_isRest 56 = .ok (.iconst 0, 1) := by decide +kernel
theorem dX6_isRest_57 : decode cX6_isRest 57 = .ok (.ireturn, 1) := by decide +kernel
theorem dX6_isRest_58 : decode cX6_isRest 58 = .ok (.iinc 4 1, 3) := by decide +kernel
theorem dX6_isRest_61 : decode cX6_isRest 61 = .ok (.goto (-58), 3) := by decide +kernel
theorem dX6_isRest_64 : decode cX6_isRest 64 = .ok (.iconst 1, 1) := by decide +kernel
theorem dX6_isRest_65 : decode cX6_isRest 65 = .ok (.ireturn, 1) := by decide +kernel
theorem dX6_streetHas_0 : decode cX6_streetHas 0 = .ok (.aload_n 0, 1) := by decide +kernel
theorem dX6_streetHas_1 : decode cX6_streetHas 1 = .ok (.getfield 11, 3) := by decide +kernel
theorem dX6_streetHas_4 : decode cX6_streetHas 4 = .ok (.iload_n 1, 1) := by decide +kernel
theorem dX6_streetHas_5 : decode cX6_streetHas 5 = .ok (.bipush 7, 2) := by decide +kernel
theorem dX6_streetHas_7 : decode cX6_streetHas 7 = .ok (.imul, 1) := by decide +kernel
theorem dX6_streetHas_8 : decode cX6_streetHas 8 = .ok (.iload_n 2, 1) := by decide +kernel
theorem dX6_streetHas_9 : decode cX6_streetHas 9 = .ok (.iadd, 1) := by decide +kernel
theorem dX6_streetHas_10 : decode cX6_streetHas 10 = .ok (.invokestatic 72, 3) := by decide +kernel
theorem dX6_streetHas_13 : decode cX6_streetHas 13 = .ok (.ineg, 1) := by decide +kernel
theorem dX6_streetHas_14 : decode cX6_streetHas 14 = .ok (.aload_n 0, 1) := by decide +kernel
theorem dX6_streetHas_15 : decode cX6_streetHas 15 = .ok (.iload_n 1, 1) := by decide +kernel
theorem dX6_streetHas_16 : decode cX6_streetHas 16 = .ok (.invokevirtual 89, 3) := by decide +kernel
theorem dX6_streetHas_19 : decode cX6_streetHas 19 = .ok (.isub, 1) := by decide +kernel
theorem dX6_streetHas_20 : decode cX6_streetHas 20 = .ok (.ireturn, 1) := by decide +kernel
theorem dX6_houseHas_0 : decode cX6_houseHas 0 = .ok (.aload_n 0, 1) := by decide +kernel
theorem dX6_houseHas_1 : decode cX6_houseHas 1 = .ok (.getfield 11, 3) := by decide +kernel
theorem dX6_houseHas_4 : decode cX6_houseHas 4 = .ok (.iload_n 1, 1) := by decide +kernel
theorem dX6_houseHas_5 : decode cX6_houseHas 5 = .ok (.bipush 7, 2) := by decide +kernel
theorem dX6_houseHas_7 : decode cX6_houseHas 7 = .ok (.imul, 1) := by decide +kernel
theorem dX6_houseHas_8 : decode cX6_houseHas 8 = .ok (.iload_n 2, 1) := by decide +kernel
theorem dX6_houseHas_9 : decode cX6_houseHas 9 = .ok (.iadd, 1) := by decide +kernel
theorem dX6_houseHas_10 : decode cX6_houseHas 10 = .ok (.invokestatic 72, 3) := by decide +kernel
theorem dX6_houseHas_13 : decode cX6_houseHas 13 = .ok (.aload_n 0, 1) := by decide +kernel
theorem dX6_houseHas_14 : decode cX6_houseHas 14 = .ok (.iload_n 2, 1) := by decide +kernel
theorem dX6_houseHas_15 : decode cX6_houseHas 15 = .ok (.invokevirtual 89, 3) := by decide +kernel
theorem dX6_houseHas_18 : decode cX6_houseHas 18 = .ok (.isub, 1) := by decide +kernel
theorem dX6_houseHas_19 : decode cX6_houseHas 19 = .ok (.ireturn, 1) := by decide +kernel
theorem dX6_paid_0 : decode cX6_paid 0 = .ok (.iload_n 1, 1) := by decide +kernel
theorem dX6_paid_1 : decode cX6_paid 1 = .ok (.aload_n 0, 1) := by decide +kernel
theorem dX6_paid_2 : decode cX6_paid 2 = .ok (.getfield 25, 3) := by decide +kernel
theorem dX6_paid_5 : decode cX6_paid 5 = .ok (.if_icmp .ne 7, 3) := by decide +kernel
theorem dX6_paid_8 : decode cX6_paid 8 = .ok (.iconst 0, 1) := by decide +kernel
theorem dX6_paid_9 : decode cX6_paid 9 = .ok (.goto 7, 3) := by decide +kernel
theorem dX6_paid_12 : decode cX6_paid 12 = .ok (.aload_n 0, 1) := by decide +kernel
theorem dX6_paid_13 : decode cX6_paid 13 = .ok (.getfield 28, 3) := by decide +kernel
theorem dX6_paid_16 : decode cX6_paid 16 = .ok (.ireturn, 1) := by decide +kernel
theorem dX6_noteRest_0 : decode cX6_noteRest 0 = .ok (.aload_n 0, 1) := by decide +kernel
theorem dX6_noteRest_1 : decode cX6_noteRest 1 = .ok (.getfield 31, 3) := by decide +kernel
theorem dX6_noteRest_4 : decode cX6_noteRest 4 = .ok (.ifCond .ne 36, 3) := by decide +kernel
theorem dX6_noteRest_7 : decode cX6_noteRest 7 = .ok (.aload_n 0, 1) := by decide +kernel
theorem dX6_noteRest_8 : decode cX6_noteRest 8 = .ok (.bipush 10, 2) := by decide +kernel
theorem dX6_noteRest_10 : decode cX6_noteRest 10 = .ok (.aload_n 0, 1) := by decide +kernel
theorem dX6_noteRest_11 : decode cX6_noteRest 11 = .ok (.iload_n 1, 1) := by decide +kernel
theorem dX6_noteRest_12 : decode cX6_noteRest 12 = .ok (.invokevirtual 93, 3) := by decide +kernel
theorem dX6_noteRest_15 : decode cX6_noteRest 15 = .ok (.imul, 1) := by decide +kernel
theorem dX6_noteRest_16 : decode cX6_noteRest 16 = .ok (.aload_n 0, 1) := by decide +kernel
theorem dX6_noteRest_17 : decode cX6_noteRest 17 = .ok (.iload_n 2, 1) := by decide +kernel
theorem dX6_noteRest_18 : decode cX6_noteRest 18 = .ok (.invokevirtual 93, 3) := by decide +kernel
theorem dX6_noteRest_21 : decode cX6_noteRest 21 = .ok (.iadd, 1) := by decide +kernel
theorem dX6_noteRest_22 : decode cX6_noteRest 22 = .ok (.putfield 34, 3) := by decide +kernel
theorem dX6_noteRest_25 : decode cX6_noteRest 25 = .ok (.aload_n 0, 1) := by decide +kernel
theorem dX6_noteRest_26 : decode cX6_noteRest 26 = .ok (.aload_n 0, 1) := by decide +kernel
theorem dX6_noteRest_27 : decode cX6_noteRest 27 = .ok (.iload_n 1, 1) := by decide +kernel
theorem dX6_noteRest_28 : decode cX6_noteRest 28 = .ok (.invokevirtual 89, 3) := by decide +kernel
theorem dX6_noteRest_31 : decode cX6_noteRest 31 = .ok (.aload_n 0, 1) := by decide +kernel
theorem dX6_noteRest_32 : decode cX6_noteRest 32 = .ok (.iload_n 2, 1) := by decide +kernel
theorem dX6_noteRest_33 : decode cX6_noteRest 33 = .ok (.invokevirtual 89, 3) := by decide +kernel
theorem dX6_noteRest_36 : decode cX6_noteRest 36 = .ok (.iadd, 1) := by decide +kernel
theorem dX6_noteRest_37 : decode cX6_noteRest 37 = .ok (.putfield 96, 3) := by decide +kernel
theorem dX6_noteRest_40 : decode cX6_noteRest 40 = .ok (.aload_n 0, 1) := by decide +kernel
theorem dX6_noteRest_41 : decode cX6_noteRest 41 = .ok (.dup, 1) := by decide +kernel
theorem dX6_noteRest_42 : decode cX6_noteRest 42 = .ok (.getfield 31, 3) := by decide +kernel
theorem dX6_noteRest_45 : decode cX6_noteRest 45 = .ok (.iconst 1, 1) := by decide +kernel
theorem dX6_noteRest_46 : decode cX6_noteRest 46 = .ok (.iadd, 1) := by decide +kernel
theorem dX6_noteRest_47 : decode cX6_noteRest 47 = .ok (.putfield 31, 3) := by decide +kernel
theorem dX6_noteRest_50 : decode cX6_noteRest 50 = .ok (.return_, 1) := by decide +kernel
theorem dX6_asTold_0 : decode cX6_asTold 0 = .ok (.iload_n 1, 1) := by decide +kernel
theorem dX6_asTold_1 : decode cX6_asTold 1 = .ok (.aload_n 0, 1) := by decide +kernel
theorem dX6_asTold_2 : decode cX6_asTold 2 = .ok (.getfield 25, 3) := by decide +kernel
theorem dX6_asTold_5 : decode cX6_asTold 5 = .ok (.if_icmp .ne 8, 3) := by decide +kernel
theorem dX6_asTold_8 : decode cX6_asTold 8 = .ok (.bipush 8, 2) := by decide +kernel
theorem dX6_asTold_10 : decode cX6_asTold 10 = .ok (.goto 4, 3) := by decide +kernel
theorem dX6_asTold_13 : decode cX6_asTold 13 = .ok (.iload_n 1, 1) := by decide +kernel
theorem dX6_asTold_14 : decode cX6_asTold 14 = .ok (.ireturn, 1) := by decide +kernel
theorem dX7_init_0 : decode cX7_init 0 = .ok (.aload_n 0, 1) := by decide +kernel
theorem dX7_init_1 : decode cX7_init 1 = .ok (.invokespecial 3, 3) := by decide +kernel
theorem dX7_init_4 : decode cX7_init 4 = .ok (.aload_n 0, 1) := by decide +kernel
theorem dX7_init_5 : decode cX7_init 5 = .ok (.sipush 600, 3) := by decide +kernel
theorem dX7_init_8 : decode cX7_init 8 = .ok (.newarray .byte, 2) := by decide +kernel
theorem dX7_init_10 : decode cX7_init 10 = .ok (.putfield 11, 3) := by decide +kernel
theorem dX7_init_13 : decode cX7_init 13 = .ok (.aload_n 0, 1) := by decide +kernel
theorem dX7_init_14 : decode cX7_init 14 = .ok (.iconst (-1), 1) := by decide +kernel
theorem dX7_init_15 : decode cX7_init 15 = .ok (.putfield 15, 3) := by decide +kernel
theorem dX7_init_18 : decode cX7_init 18 = .ok (.return_, 1) := by decide +kernel
theorem dX7_hasRoom_0 : decode cX7_hasRoom 0 = .ok (.aload_n 0, 1) := by decide +kernel
theorem dX7_hasRoom_1 : decode cX7_hasRoom 1 = .ok (.getfield 19, 3) := by decide +kernel
theorem dX7_hasRoom_4 : decode cX7_hasRoom 4 = .ok (.bipush 20, 2) := by decide +kernel
theorem dX7_hasRoom_6 : decode cX7_hasRoom 6 = .ok (.iadd, 1) := by decide +kernel
theorem dX7_hasRoom_7 : decode cX7_hasRoom 7 = .ok (.sipush 600, 3) := by decide +kernel
theorem dX7_hasRoom_10 : decode cX7_hasRoom 10 = .ok (.if_icmp .gt 7, 3) := by decide +kernel
theorem dX7_hasRoom_13 : decode cX7_hasRoom 13 = .ok (.iconst 1, 1) := by decide +kernel
theorem dX7_hasRoom_14 : decode cX7_hasRoom 14 = .ok (.goto 4, 3) := by decide +kernel
theorem dX7_hasRoom_17 : decode cX7_hasRoom 17 = .ok (.iconst 0, 1) := by decide +kernel
theorem dX7_hasRoom_18 : decode cX7_hasRoom 18 = .ok (.ireturn, 1) := by decide +kernel
theorem dX7_append_0 : decode cX7_append 0 = .ok (.bipush 24, 2) := by decide +kernel
theorem dX7_append_2 : decode cX7_append 2 = .ok (.istore_n 2, 1) := by decide +kernel
theorem dX7_append_3 : decode cX7_append 3 = .ok (.iload_n 2, 1) := by decide +kernel
theorem dX7_append_4 : decode cX7_append 4 = .ok (.ifCond .lt 49, 3) := by decide +kernel
theorem dX7_append_7 : decode cX7_append 7 = .ok (.aload_n 0, 1) := by decide +kernel
theorem dX7_append_8 : decode cX7_append 8 = .ok (.getfield 19, 3) := by decide +kernel
theorem dX7_append_11 : decode cX7_append 11 = .ok (.ifCond .lt 36, 3) := by decide +kernel
theorem dX7_append_14 : decode cX7_append 14 = .ok (.aload_n 0, 1) := by decide +kernel
theorem dX7_append_15 : decode cX7_append 15 = .ok (.getfield 19, 3) := by decide +kernel
theorem dX7_append_18 : decode cX7_append 18 = .ok (.sipush 600, 3) := by decide +kernel
theorem dX7_append_21 : decode cX7_append 21 = .ok (.if_icmp .ge 26, 3) := by decide +kernel
theorem dX7_append_24 : decode cX7_append 24 = .ok (.aload_n 0, 1) := by decide +kernel
theorem dX7_append_25 : decode cX7_append 25 = .ok (.getfield 11, 3) := by decide +kernel
theorem dX7_append_28 : decode cX7_append 28 = .ok (.aload_n 0, 1) := by decide +kernel
theorem dX7_append_29 : decode cX7_append 29 = .ok (.getfield 19, 3) := by decide +kernel
theorem dX7_append_32 : decode cX7_append 32 = .ok (.iload_n 1, 1) := by decide +kernel
theorem dX7_append_33 : decode cX7_append 33 = .ok (.iload_n 2, 1) := by decide +kernel
theorem dX7_append_34 : decode cX7_append 34 = .ok (.ishr, 1) := by decide +kernel
theorem dX7_append_35 : decode cX7_append 35 = .ok (.i2b, 1) := by decide +kernel
theorem dX7_append_36 : decode cX7_append 36 = .ok (.bastore, 1) := by decide +kernel
theorem dX7_append_37 : decode cX7_append 37 = .ok (.aload_n 0, 1) := by decide +kernel
theorem dX7_append_38 : decode cX7_append 38 = .ok (.dup, 1) := by decide +kernel
theorem dX7_append_39 : decode cX7_append 39 = .ok (.getfield 19, 3) := by decide +kernel
theorem dX7_append_42 : decode cX7_append 42 = .ok (.iconst 1, 1) := by decide +kernel
theorem dX7_append_43 : decode cX7_append 43 = .ok (.iadd, 1) := by decide +kernel
theorem dX7_append_44 : decode cX7_append 44 = .ok (.putfield 19, 3) := by decide +kernel
theorem dX7_append_47 : decode cX7_append 47 = .ok (.iinc 2 (-8), 3) := by decide +kernel
theorem dX7_append_50 : decode cX7_append 50 = .ok (.goto (-47), 3) := by decide +kernel
theorem dX7_append_53 : decode cX7_append 53 = .ok (.return_, 1) := by decide +kernel
theorem dX7_begin_0 : decode cX7_begin 0 = .ok (.aload_n 0, 1) := by decide +kernel
theorem dX7_begin_1 : decode cX7_begin 1 = .ok (.iconst 0, 1) := by decide +kernel
theorem dX7_begin_2 : decode cX7_begin 2 = .ok (.putfield 22, 3) := by decide +kernel
theorem dX7_begin_5 : decode cX7_begin 5 = .ok (.aload_n 0, 1) := by decide +kernel
theorem dX7_begin_6 : decode cX7_begin 6 = .ok (.iload_n 1, 1) := by decide +kernel
theorem dX7_begin_7 : decode cX7_begin 7 = .ok (.putfield 25, 3) := by decide +kernel
theorem dX7_begin_10 : decode cX7_begin 10 = .ok (.aload_n 0, 1) := by decide +kernel
theorem dX7_begin_11 : decode cX7_begin 11 = .ok (.iconst 0, 1) := by decide +kernel
theorem dX7_begin_12 : decode cX7_begin 12 = .ok (.putfield 19, 3) := by decide +kernel
theorem dX7_begin_15 : decode cX7_begin 15 = .ok (.aload_n 0, 1) := by decide +kernel
theorem dX7_begin_16 : decode cX7_begin 16 = .ok (.iconst 0, 1) := by decide +kernel
theorem dX7_begin_17 : decode cX7_begin 17 = .ok (.putfield 28, 3) := by decide +kernel
theorem dX7_begin_20 : decode cX7_begin 20 = .ok (.aload_n 0, 1) := by decide +kernel
theorem dX7_begin_21 : decode cX7_begin 21 = .ok (.iconst (-1), 1) := by decide +kernel
theorem dX7_begin_22 : decode cX7_begin 22 = .ok (.putfield 15, 3) := by decide +kernel
theorem dX7_begin_25 : decode cX7_begin 25 = .ok (.return_, 1) := by decide +kernel
theorem dX7_peek_0 : decode cX7_peek 0 = .ok (.aload_n 0, 1) := by decide +kernel
theorem dX7_peek_1 : decode cX7_peek 1 = .ok (.getfield 22, 3) := by decide +kernel
theorem dX7_peek_4 : decode cX7_peek 4 = .ok (.aload_n 0, 1) := by decide +kernel
theorem dX7_peek_5 : decode cX7_peek 5 = .ok (.getfield 25, 3) := by decide +kernel
theorem dX7_peek_8 : decode cX7_peek 8 = .ok (.if_icmp .ge 29, 3) := by decide +kernel
theorem dX7_peek_11 : decode cX7_peek 11 = .ok (.aload_n 0, 1) := by decide +kernel
theorem dX7_peek_12 : decode cX7_peek 12 = .ok (.aload_n 0, 1) := by decide +kernel
theorem dX7_peek_13 : decode cX7_peek 13 = .ok (.getfield 22, 3) := by decide +kernel
theorem dX7_peek_16 : decode cX7_peek 16 = .ok (.invokevirtual 31, 3) := by decide +kernel
theorem dX7_peek_19 : decode cX7_peek 19 = .ok (.bipush 32, 2) := by decide +kernel
theorem dX7_peek_21 : decode cX7_peek 21 = .ok (.if_icmp .ne 16, 3) := by decide +kernel
theorem dX7_peek_24 : decode cX7_peek 24 = .ok (.aload_n 0, 1) := by decide +kernel
theorem dX7_peek_25 : decode cX7_peek 25 = .ok (.dup, 1) := by decide +kernel
theorem dX7_peek_26 : decode cX7_peek 26 = .ok (.getfield 22, 3) := by decide +kernel
theorem dX7_peek_29 : decode cX7_peek 29 = .ok (.iconst 1, 1) := by decide +kernel
theorem dX7_peek_30 : decode cX7_peek 30 = .ok (.iadd, 1) := by decide +kernel
theorem dX7_peek_31 : decode cX7_peek 31 = .ok (.putfield 22, 3) := by decide +kernel
theorem dX7_peek_34 : decode cX7_peek 34 = .ok (.goto (-34), 3) := by decide +kernel
theorem dX7_peek_37 : decode cX7_peek 37 = .ok (.aload_n 0, 1) := by decide +kernel
theorem dX7_peek_38 : decode cX7_peek 38 = .ok (.aload_n 0, 1) := by decide +kernel
theorem dX7_peek_39 : decode cX7_peek 39 = .ok (.getfield 22, 3) := by decide +kernel
theorem dX7_peek_42 : decode cX7_peek 42 = .ok (.putfield 35, 3) := by decide +kernel
theorem dX7_peek_45 : decode cX7_peek 45 = .ok (.aload_n 0, 1) := by decide +kernel
theorem dX7_peek_46 : decode cX7_peek 46 = .ok (.getfield 22, 3) := by decide +kernel
theorem dX7_peek_49 : decode cX7_peek 49 = .ok (.aload_n 0, 1) := by decide +kernel
theorem dX7_peek_50 : decode cX7_peek 50 = .ok (.getfield 25, 3) := by decide +kernel
theorem dX7_peek_53 : decode cX7_peek 53 = .ok (.if_icmp .ge 14, 3) := by decide +kernel
theorem dX7_peek_56 : decode cX7_peek 56 = .ok (.aload_n 0, 1) := by decide +kernel
theorem dX7_peek_57 : decode cX7_peek 57 = .ok (.aload_n 0, 1) := by decide +kernel
theorem dX7_peek_58 : decode cX7_peek 58 = .ok (.getfield 22, 3) := by decide +kernel
theorem dX7_peek_61 : decode cX7_peek 61 = .ok (.invokevirtual 31, 3) := by decide +kernel
theorem dX7_peek_64 : decode cX7_peek 64 = .ok (.goto 4, 3) := by decide +kernel
theorem dX7_peek_67 : decode cX7_peek 67 = .ok (.iconst (-1), 1) := by decide +kernel
theorem dX7_peek_68 : decode cX7_peek 68 = .ok (.ireturn, 1) := by decide +kernel
theorem dX7_ended_0 : decode cX7_ended 0 = .ok (.aload_n 0, 1) := by decide +kernel
theorem dX7_ended_1 : decode cX7_ended 1 = .ok (.invokevirtual 38, 3) := by decide +kernel
theorem dX7_ended_4 : decode cX7_ended 4 = .ok (.iconst (-1), 1) := by decide +kernel
theorem dX7_ended_5 : decode cX7_ended 5 = .ok (.if_icmp .eq 11, 3) := by decide +kernel
theorem dX7_ended_8 : decode cX7_ended 8 = .ok (.aload_n 0, 1) := by decide +kernel
theorem dX7_ended_9 : decode cX7_ended 9 = .ok (.iconst 1, 1) := by decide +kernel
theorem dX7_ended_10 : decode cX7_ended 10 = .ok (.invokevirtual 42, 3) := by decide +kernel
theorem dX7_ended_13 : decode cX7_ended 13 = .ok (.ifCond .eq 7, 3) := by decide +kernel
theorem dX7_ended_16 : decode cX7_ended 16 = .ok (.iconst 1, 1) := by decide +kernel
theorem dX7_ended_17 : decode cX7_ended 17 = .ok (.goto 4, 3) := by decide +kernel
theorem dX7_ended_20 : decode cX7_ended 20 = .ok (.iconst 0, 1) := by decide +kernel
theorem dX7_ended_21 : decode cX7_ended 21 = .ok (.ireturn, 1) := by decide +kernel
theorem dX7_sign_0 : decode cX7_sign 0 = .ok (.aload_n 0, 1) := by decide +kernel
theorem dX7_sign_1 : decode cX7_sign 1 = .ok (.invokevirtual 38, 3) := by decide +kernel
theorem dX7_sign_4 : decode cX7_sign 4 = .ok (.iload_n 1, 1) := by decide +kernel
theorem dX7_sign_5 : decode cX7_sign 5 = .ok (.if_icmp .eq 9, 3) := by decide +kernel
theorem dX7_sign_8 : decode cX7_sign 8 = .ok (.aload_n 0, 1) := by decide +kernel
theorem dX7_sign_9 : decode cX7_sign 9 = .ok (.iconst 1, 1) := by decide +kernel
theorem dX7_sign_10 : decode cX7_sign 10 = .ok (.invokevirtual 42, 3) := by decide +kernel
theorem dX7_sign_13 : decode cX7_sign 13 = .ok (.ireturn, 1) := by decide +kernel
theorem dX7_sign_14 : decode cX7_sign 14 = .ok (.aload_n 0, 1) := by decide +kernel
theorem dX7_sign_15 : decode cX7_sign 15 = .ok (.dup, 1) := by decide +kernel
theorem dX7_sign_16 : decode cX7_sign 16 = .ok (.getfield 22, 3) := by decide +kernel
theorem dX7_sign_19 : decode cX7_sign 19 = .ok (.iconst 1, 1) := by decide +kernel
theorem dX7_sign_20 : decode cX7_sign 20 = .ok (.iadd, 1) := by decide +kernel
theorem dX7_sign_21 : decode cX7_sign 21 = .ok (.putfield 22, 3) := by decide +kernel
theorem dX7_sign_24 : decode cX7_sign 24 = .ok (.iconst 1, 1) := by decide +kernel
theorem dX7_sign_25 : decode cX7_sign 25 = .ok (.ireturn, 1) := by decide +kernel
theorem dX7_numeral_0 : decode cX7_numeral 0 = .ok (.aload_n 0, 1) := by decide +kernel
theorem dX7_numeral_1 : decode cX7_numeral 1 = .ok (.invokevirtual 38, 3) := by decide +kernel
theorem dX7_numeral_4 : decode cX7_numeral 4 = .ok (.invokestatic 46, 3) := by decide +kernel
theorem dX7_numeral_7 : decode cX7_numeral 7 = .ok (.ifCond .ne 9, 3) := by decide +kernel
theorem dX7_numeral_10 : decode cX7_numeral 10 = .ok (.aload_n 0, 1) := by decide +kernel
theorem dX7_numeral_11 : decode cX7_numeral 11 = .ok (.iconst 1, 1) := by decide +kernel
theorem dX7_numeral_12 : decode cX7_numeral 12 = .ok (.invokevirtual 42, 3) := by decide +kernel
theorem dX7_numeral_15 : decode cX7_numeral 15 = .ok (.ireturn, 1) := by decide +kernel
theorem dX7_numeral_16 : decode cX7_numeral 16 = .ok (.iconst 0, 1) := by decide +kernel
theorem dX7_numeral_17 : decode cX7_numeral 17 = .ok (.istore_n 3, 1) := by decide +kernel
theorem dX7_numeral_18 : decode cX7_numeral 18 = .ok (.aload_n 0, 1) := by decide +kernel
theorem dX7_numeral_19 : decode cX7_numeral 19 = .ok (.getfield 22, 3) := by decide +kernel
theorem dX7_numeral_22 : decode cX7_numeral 22 = .ok (.aload_n 0, 1) := by decide +kernel
theorem dX7_numeral_23 : decode cX7_numeral 23 = .ok (.getfield 25, 3) := by decide +kernel
theorem dX7_numeral_26 : decode cX7_numeral 26 = .ok (.if_icmp .ge 52, 3) := by decide +kernel
theorem dX7_numeral_29 : decode cX7_numeral 29 = .ok (.aload_n 0, 1) := by decide +kernel
theorem dX7_numeral_30 : decode cX7_numeral 30 = .ok (.aload_n 0, 1) := by decide +kernel
theorem dX7_numeral_31 : decode cX7_numeral 31 = .ok (.getfield 22, 3) := by decide +kernel
theorem dX7_numeral_34 : decode cX7_numeral 34 = .ok (.invokevirtual 31, 3) := by decide +kernel
theorem dX7_numeral_37 : decode cX7_numeral 37 = .ok (.invokestatic 46, 3) := by decide +kernel
theorem dX7_numeral_40 : decode cX7_numeral 40 = .ok (.ifCond .eq 38, 3) := by decide +kernel
theorem dX7_numeral_43 : decode cX7_numeral 43 = .ok (.ldc 49, 2) := by decide +kernel
theorem dX7_numeral_45 : decode cX7_numeral 45 = .ok (.iload_n 3, 1) := by decide +kernel
theorem dX7_numeral_46 : decode cX7_numeral 46 = .ok (.bipush 10, 2) := by decide +kernel
theorem dX7_numeral_48 : decode cX7_numeral 48 = .ok (.imul, 1) := by decide +kernel
theorem dX7_numeral_49 : decode cX7_numeral 49 = .ok (.aload_n 0, 1) := by decide +kernel
theorem dX7_numeral_50 : decode cX7_numeral 50 = .ok (.aload_n 0, 1) := by decide +kernel
theorem dX7_numeral_51 : decode cX7_numeral 51 = .ok (.getfield 22, 3) := by decide +kernel
theorem dX7_numeral_54 : decode cX7_numeral 54 = .ok (.invokevirtual 31, 3) := by decide +kernel
theorem dX7_numeral_57 : decode cX7_numeral 57 = .ok (.iadd, 1) := by decide +kernel
theorem dX7_numeral_58 : decode cX7_numeral 58 = .ok (.bipush 48, 2) := by decide +kernel
theorem dX7_numeral_60 : decode cX7_numeral 60 = .ok (.isub, 1) := by decide +kernel
theorem dX7_numeral_61 : decode cX7_numeral 61 = .ok (.invokestatic 50, 3) := by decide +kernel
theorem dX7_numeral_64 : decode cX7_numeral 64 = .ok (.istore_n 3, 1) := by decide +kernel
theorem dX7_numeral_65 : decode cX7_numeral 65 = .ok (.aload_n 0, 1) := by decide +kernel
theorem dX7_numeral_66 : decode cX7_numeral 66 = .ok (.dup, 1) := by decide +kernel
theorem dX7_numeral_67 : decode cX7_numeral 67 = .ok (.getfield 22, 3) := by decide +kernel
theorem dX7_numeral_70 : decode cX7_numeral 70 = .ok (.iconst 1, 1) := by decide +kernel
theorem dX7_numeral_71 : decode cX7_numeral 71 = .ok (.iadd, 1) := by decide +kernel
theorem dX7_numeral_72 : decode cX7_numeral 72 = .ok (.putfield 22, 3) := by decide +kernel
theorem dX7_numeral_75 : decode cX7_numeral 75 = .ok (.goto (-57), 3) := by decide +kernel
theorem dX7_numeral_78 : decode cX7_numeral 78 = .ok (.aload_n 0, 1) := by decide +kernel
theorem dX7_numeral_79 : decode cX7_numeral 79 = .ok (.iload_n 3, 1) := by decide +kernel
theorem dX7_numeral_80 : decode cX7_numeral 80 = .ok (.putfield 56, 3) := by decide +kernel
theorem dX7_numeral_83 : decode cX7_numeral 83 = .ok (.iload_n 3, 1) := by decide +kernel
theorem dX7_numeral_84 : decode cX7_numeral 84 = .ok (.iload_n 1, 1) := by decide +kernel
theorem dX7_numeral_85 : decode cX7_numeral 85 = .ok (.iload_n 2, 1) := by decide +kernel
theorem dX7_numeral_86 : decode cX7_numeral 86 = .ok (.invokestatic 59, 3) := by decide +kernel
theorem dX7_numeral_89 : decode cX7_numeral 89 = .ok (.ifCond .ne 11, 3) := by decide +kernel
theorem dX7_numeral_92 : decode cX7_numeral 92 = .ok (.aload_n 0, 1) := by decide +kernel
theorem dX7_numeral_93 : decode cX7_numeral 93 = .ok (.iconst 2, 1) := by decide +kernel
theorem dX7_numeral_94 : decode cX7_numeral 94 = .ok (.invokevirtual 42, 3) := by decide +kernel
theorem dX7_numeral_97 : decode cX7_numeral 97 = .ok (.ifCond .eq 7, 3) := by decide +kernel
theorem dX7_numeral_100 : decode cX7_numeral 100 = .ok (.iconst 1, 1) := by decide +kernel
theorem dX7_numeral_101 : decode cX7_numeral 101 = .ok (.goto 4, 3) := by decide +kernel
theorem dX7_numeral_104 : decode cX7_numeral 104 = .ok (.iconst 0, 1) := by decide +kernel
theorem dX7_numeral_105 : decode cX7_numeral 105 = .ok (.ireturn, 1) := by decide +kernel
theorem dX7_named_0 : decode cX7_named 0 = .ok (.aload_n 0, 1) := by decide +kernel
theorem dX7_named_1 : decode cX7_named 1 = .ok (.invokevirtual 38, 3) := by decide +kernel
theorem dX7_named_4 : decode cX7_named 4 = .ok (.pop, 1) := by decide +kernel
theorem dX7_named_5 : decode cX7_named 5 = .ok (.aload_n 0, 1) := by decide +kernel
theorem dX7_named_6 : decode cX7_named 6 = .ok (.getfield 22, 3) := by decide +kernel
theorem dX7_named_9 : decode cX7_named 9 = .ok (.aload_n 0, 1) := by decide +kernel
theorem dX7_named_10 : decode cX7_named 10 = .ok (.getfield 25, 3) := by decide +kernel
theorem dX7_named_13 : decode cX7_named 13 = .ok (.if_icmp .ge 34, 3) := by decide +kernel
theorem dX7_named_16 : decode cX7_named 16 = .ok (.aload_n 0, 1) := by decide +kernel
theorem dX7_named_17 : decode cX7_named 17 = .ok (.aload_n 0, 1) := by decide +kernel
theorem dX7_named_18 : decode cX7_named 18 = .ok (.getfield 22, 3) := by decide +kernel
theorem dX7_named_21 : decode cX7_named 21 = .ok (.invokevirtual 31, 3) := by decide +kernel
theorem dX7_named_24 : decode cX7_named 24 = .ok (.bipush 97, 2) := by decide +kernel
theorem dX7_named_26 : decode cX7_named 26 = .ok (.bipush 122, 2) := by decide +kernel
theorem dX7_named_28 : decode cX7_named 28 = .ok (.invokestatic 59, 3) := by decide +kernel
theorem dX7_named_31 : decode cX7_named 31 = .ok (.ifCond .eq 16, 3) := by decide +kernel
theorem dX7_named_34 : decode cX7_named 34 = .ok (.aload_n 0, 1) := by decide +kernel
theorem dX7_named_35 : decode cX7_named 35 = .ok (.dup, 1) := by decide +kernel
theorem dX7_named_36 : decode cX7_named 36 = .ok (.getfield 22, 3) := by decide +kernel
theorem dX7_named_39 : decode cX7_named 39 = .ok (.iconst 1, 1) := by decide +kernel
theorem dX7_named_40 : decode cX7_named 40 = .ok (.iadd, 1) := by decide +kernel
theorem dX7_named_41 : decode cX7_named 41 = .ok (.putfield 22, 3) := by decide +kernel
theorem dX7_named_44 : decode cX7_named 44 = .ok (.goto (-39), 3) := by decide +kernel
theorem dX7_named_47 : decode cX7_named 47 = .ok (.aload_n 0, 1) := by decide +kernel
theorem dX7_named_48 : decode cX7_named 48 = .ok (.aload_n 1, 1) := by decide +kernel
theorem dX7_named_49 : decode cX7_named 49 = .ok (.invokevirtual 63, 3) := by decide +kernel
theorem dX7_named_52 : decode cX7_named 52 = .ok (.istore_n 2, 1) := by decide +kernel
theorem dX7_named_53 : decode cX7_named 53 = .ok (.iload_n 2, 1) := by decide +kernel
theorem dX7_named_54 : decode cX7_named 54 = .ok (.ifCond .ge 9, 3) := by decide +kernel
theorem dX7_named_57 : decode cX7_named 57 = .ok (.aload_n 0, 1) := by decide +kernel
theorem dX7_named_58 : decode cX7_named 58 = .ok (.iconst 1, 1) := by decide +kernel
theorem dX7_named_59 : decode cX7_named 59 = .ok (.invokevirtual 42, 3) := by decide +kernel
theorem dX7_named_62 : decode cX7_named 62 = .ok (.pop, 1) := by decide +kernel
theorem dX7_named_63 : decode cX7_named 63 = .ok (.iload_n 2, 1) := by decide +kernel
theorem dX7_named_64 : decode cX7_named 64 = .ok (.ireturn, 1) := by decide +kernel
theorem dX7_placeAmong_0 : decode cX7_placeAmong 0 = .ok (.iconst 0, 1) := by decide +kernel
theorem dX7_placeAmong_1 : decode cX7_placeAmong 1 = .ok (.istore_n 2, 1) := by decide +kernel
theorem dX7_placeAmong_2 : decode cX7_placeAmong 2 = .ok (.aload_n 0, 1) := by decide +kernel
theorem dX7_placeAmong_3 : decode cX7_placeAmong 3 = .ok (.getfield 35, 3) := by decide +kernel
theorem dX7_placeAmong_6 : decode cX7_placeAmong 6 = .ok (.istore_n 3, 1) := by decide +kernel
theorem dX7_placeAmong_7 : decode cX7_placeAmong 7 = .ok (.iconst 1, 1) := by decide +kernel
theorem dX7_placeAmong_8 : decode cX7_placeAmong 8 = .ok (.istore 4, 2) := by decide +kernel
theorem dX7_placeAmong_10 : decode cX7_placeAmong 10 = .ok (.iconst 0, 1) := by decide +kernel
theorem dX7_placeAmong_11 : decode cX7_placeAmong 11 = .ok (.istore 5, 2) := by decide +kernel
theorem dX7_placeAmong_13 : decode cX7_placeAmong 13 = .ok (.iload 5, 2) := by decide +kernel
theorem dX7_placeAmong_15 : decode cX7_placeAmong 15 = .ok (.aload_n 1, 1) := by decide +kernel
theorem dX7_placeAmong_16 : decode cX7_placeAmong 16 = .ok (.invokevirtual 67, 3) := by decide +kernel
theorem dX7_placeAmong_19 : decode cX7_placeAmong 19 = .ok (.if_icmp .ge 86, 3) := by decide +kernel
theorem dX7_placeAmong_22 : decode cX7_placeAmong 22 = .ok (.aload_n 1, 1) := by decide +kernel
theorem dX7_placeAmong_23 : decode cX7_placeAmong 23 = .ok (.iload 5, 2) := by decide +kernel
theorem dX7_placeAmong_25 : decode cX7_placeAmong 25 = .ok (.invokevirtual 72, 3) := by decide +kernel
theorem dX7_placeAmong_28 : decode cX7_placeAmong 28 = .ok (.bipush 32, 2) := by decide +kernel
theorem dX7_placeAmong_30 : decode cX7_placeAmong 30 = .ok (.if_icmp .eq 43, 3) := by decide +kernel
theorem dX7_placeAmong_33 : decode cX7_placeAmong 33 = .ok (.iload 4, 2) := by decide +kernel
theorem dX7_placeAmong_35 : decode cX7_placeAmong 35 = .ok (.ifCond .eq 29, 3) := by decide +kernel
theorem dX7_placeAmong_38 : decode cX7_placeAmong 38 = .ok (.iload_n 3, 1) := by decide +kernel
theorem dX7_placeAmong_39 : decode cX7_placeAmong 39 = .ok (.aload_n 0, 1) := by decide +kernel
theorem dX7_placeAmong_40 : decode cX7_placeAmong 40 = .ok (.getfield 22, 3) := by decide +kernel
theorem dX7_placeAmong_43 : decode cX7_placeAmong 43 = .ok (.if_icmp .ge 21, 3) := by decide +kernel
theorem dX7_placeAmong_46 : decode cX7_placeAmong 46 = .ok (.aload_n 0, 1) := by decide +kernel
theorem dX7_placeAmong_47 : decode cX7_placeAmong 47 = .ok (.iload_n 3, 1) := by decide +kernel
theorem dX7_placeAmong_48 : decode cX7_placeAmong 48 = .ok (.invokevirtual 31, 3) := by decide +kernel
theorem dX7_placeAmong_51 : decode cX7_placeAmong 51 = .ok (.aload_n 1, 1) := by decide +kernel
theorem dX7_placeAmong_52 : decode cX7_placeAmong 52 = .ok (.iload 5, 2) := by decide +kernel
theorem dX7_placeAmong_54 : decode cX7_placeAmong 54 = .ok (.invokevirtual 72, 3) := by decide +kernel
theorem dX7_placeAmong_57 : decode cX7_placeAmong 57 = .ok (.if_icmp .ne 7, 3) := by decide +kernel
theorem dX7_placeAmong_60 : decode cX7_placeAmong 60 = .ok (.iconst 1, 1) := by decide +kernel
theorem dX7_placeAmong_61 : decode cX7_placeAmong 61 = .ok (.goto 4, 3) := by decide +kernel
theorem dX7_placeAmong_64 : decode cX7_placeAmong 64 = .ok (.iconst 0, 1) := by decide +kernel
theorem dX7_placeAmong_65 : decode cX7_placeAmong 65 = .ok (.istore 4, 2) := by decide +kernel
theorem dX7_placeAmong_67 : decode cX7_placeAmong 67 = .ok (.iinc 3 1, 3) := by decide +kernel
theorem dX7_placeAmong_70 : decode cX7_placeAmong 70 = .ok (.goto 29, 3) := by decide +kernel
theorem dX7_placeAmong_73 : decode cX7_placeAmong 73 = .ok (.iload 4, 2) := by decide +kernel
theorem dX7_placeAmong_75 : decode cX7_placeAmong 75 = .ok (.ifCond .eq 13, 3) := by decide +kernel
theorem dX7_placeAmong_78 : decode cX7_placeAmong 78 = .ok (.iload_n 3, 1) := by decide +kernel
theorem dX7_placeAmong_79 : decode cX7_placeAmong 79 = .ok (.aload_n 0, 1) := by decide +kernel
theorem dX7_placeAmong_80 : decode cX7_placeAmong 80 = .ok (.getfield 22, 3) := by decide +kernel
theorem dX7_placeAmong_83 : decode cX7_placeAmong 83 = .ok (.if_icmp .ne 5, 3) := by decide +kernel
theorem dX7_placeAmong_86 : decode cX7_placeAmong 86 = .ok (.iload_n 2, 1) := by decide +kernel
theorem dX7_placeAmong_87 : decode cX7_placeAmong 87 = .ok (.ireturn, 1) := by decide +kernel
theorem dX7_placeAmong_88 : decode cX7_placeAmong 88 = .ok (.iinc 2 1, 3) := by decide +kernel
theorem dX7_placeAmong_91 : decode cX7_placeAmong 91 = .ok (.aload_n 0, 1) := by decide +kernel
theorem dX7_placeAmong_92 : decode cX7_placeAmong 92 = .ok (.getfield 35, 3) := by decide +kernel
theorem dX7_placeAmong_95 : decode cX7_placeAmong 95 = .ok (.istore_n 3, 1) := by decide +kernel
theorem dX7_placeAmong_96 : decode cX7_placeAmong 96 = .ok (.iconst 1, 1) := by decide +kernel
theorem dX7_placeAmong_97 : decode cX7_placeAmong 97 = .ok (.istore 4, 2) := by decide +kernel
theorem dX7_placeAmong_99 : decode cX7_placeAmong 99 = .ok (.iinc 5 1, 3) := by decide +kernel
theorem dX7_placeAmong_102 : decode cX7_placeAmong 102 = .ok (.goto (-89), 3) := by decide +kernel
theorem dX7_placeAmong_105 : decode cX7_placeAmong 105 = .ok (.iconst (-1), 1) := by decide +kernel
theorem dX7_placeAmong_106 : decode cX7_placeAmong 106 = .ok (.ireturn, 1) := by decide +kernel
theorem dX7_noneSuch_0 : decode cX7_noneSuch 0 = .ok (.aload_n 0, 1) := by decide +kernel
theorem dX7_noneSuch_1 : decode cX7_noneSuch 1 = .ok (.iconst 2, 1) := by decide +kernel
theorem dX7_noneSuch_2 : decode cX7_noneSuch 2 = .ok (.invokevirtual 42, 3) := by decide +kernel
theorem dX7_noneSuch_5 : decode cX7_noneSuch 5 = .ok (.ireturn, 1) := by decide +kernel
theorem dX7_tooMany_0 : decode cX7_tooMany 0 = .ok (.aload_n 0, 1) := by decide +kernel
theorem dX7_tooMany_1 : decode cX7_tooMany 1 = .ok (.iconst 3, 1) := by decide +kernel
theorem dX7_tooMany_2 : decode cX7_tooMany 2 = .ok (.invokevirtual 42, 3) := by decide +kernel
theorem dX7_tooMany_5 : decode cX7_tooMany 5 = .ok (.ireturn, 1) := by decide +kernel
theorem dX7_blame_0 : decode cX7_blame 0 = .ok (.aload_n 0, 1) := by decide +kernel
theorem dX7_blame_1 : decode cX7_blame 1 = .ok (.iload_n 1, 1) := by decide +kernel
theorem dX7_blame_2 : decode cX7_blame 2 = .ok (.putfield 28, 3) := by decide +kernel
theorem dX7_blame_5 : decode cX7_blame 5 = .ok (.aload_n 0, 1) := by decide +kernel
theorem dX7_blame_6 : decode cX7_blame 6 = .ok (.aload_n 0, 1) := by decide +kernel
theorem dX7_blame_7 : decode cX7_blame 7 = .ok (.getfield 35, 3) := by decide +kernel
theorem dX7_blame_10 : decode cX7_blame 10 = .ok (.putfield 15, 3) := by decide +kernel
theorem dX7_blame_13 : decode cX7_blame 13 = .ok (.iconst 0, 1) := by decide +kernel
theorem dX7_blame_14 : decode cX7_blame 14 = .ok (.ireturn, 1) := by decide +kernel
theorem dX7_byteAt_0 : decode cX7_byteAt 0 = .ok (.iload_n 1, 1) := by decide +kernel
theorem dX7_byteAt_1 : decode cX7_byteAt 1 = .ok (.ifCond .lt 23, 3) := by decide +kernel
theorem dX7_byteAt_4 : decode cX7_byteAt 4 = .ok (.iload_n 1, 1) := by decide +kernel
theorem dX7_byteAt_5 : decode cX7_byteAt 5 = .ok (.sipush 600, 3) := by decide +kernel
theorem dX7_byteAt_8 : decode cX7_byteAt 8 = .ok (.if_icmp .ge 16, 3) := by decide +kernel
theorem dX7_byteAt_11 : decode cX7_byteAt 11 = .ok (.aload_n 0, 1) := by decide +kernel
theorem dX7_byteAt_12 : decode cX7_byteAt 12 = .ok (.getfield 11, 3) := by decide +kernel
theorem dX7_byteAt_15 : decode cX7_byteAt 15 = .ok (.iload_n 1, 1) := by decide +kernel
theorem dX7_byteAt_16 : decode cX7_byteAt 16 = .ok (.baload, 1) := by decide +kernel
theorem dX7_byteAt_17 : decode cX7_byteAt 17 = .ok (.sipush 255, 3) := by decide +kernel
theorem dX7_byteAt_20 : decode cX7_byteAt 20 = .ok (.iand, 1) := by decide +kernel
theorem dX7_byteAt_21 : decode cX7_byteAt 21 = .ok (.goto 4, 3) := by decide +kernel
theorem dX7_byteAt_24 : decode cX7_byteAt 24 = .ok (.iconst (-1), 1) := by decide +kernel
theorem dX7_byteAt_25 : decode cX7_byteAt 25 = .ok (.ireturn, 1) := by decide +kernel
theorem dX7_isDigit_0 : decode cX7_isDigit 0 = .ok (.iload_n 0, 1) := by decide +kernel
theorem dX7_isDigit_1 : decode cX7_isDigit 1 = .ok (.bipush 48, 2) := by decide +kernel
theorem dX7_isDigit_3 : decode cX7_isDigit 3 = .ok (.if_icmp .lt 13, 3) := by decide +kernel
theorem dX7_isDigit_6 : decode cX7_isDigit 6 = .ok (.iload_n 0, 1) := by decide +kernel
theorem dX7_isDigit_7 : decode cX7_isDigit 7 = .ok (.bipush 57, 2) := by decide +kernel
theorem dX7_isDigit_9 : decode cX7_isDigit 9 = .ok (.if_icmp .gt 7, 3) := by decide +kernel
