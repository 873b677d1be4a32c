theorem dX7_isDigit_12 : decode cX7_isDigit 12 = .ok (.iconst 1, 1) := by decide +kernel
theorem dX7_isDigit_13 : decode cX7_isDigit 13 = .ok (.goto 4, 3) := by decide +kernel
theorem dX7_isDigit_16 : decode cX7_isDigit 16 = .ok (.iconst 0, 1) := by decide +kernel
theorem dX7_isDigit_17 : decode cX7_isDigit 17 = .ok (.ireturn, 1) := by decide +kernel
theorem dX8_init_0 : decode cX8_init 0 = .ok (.aload_n 0, 1) := by decide +kernel
theorem dX8_init_1 : decode cX8_init 1 = .ok (.invokespecial 3, 3) := by decide +kernel
theorem dX8_init_4 : decode cX8_init 4 = .ok (.aload_n 0, 1) := by decide +kernel
theorem dX8_init_5 : decode cX8_init 5 = .ok (.bipush 6, 2) := by decide +kernel
theorem dX8_init_7 : decode cX8_init 7 = .ok (.newarray .int, 2) := by decide +kernel
theorem dX8_init_9 : decode cX8_init 9 = .ok (.putfield 9, 3) := by decide +kernel
theorem dX8_init_12 : decode cX8_init 12 = .ok (.aload_n 0, 1) := by decide +kernel
theorem dX8_init_13 : decode cX8_init 13 = .ok (.bipush 6, 2) := by decide +kernel
theorem dX8_init_15 : decode cX8_init 15 = .ok (.newarray .int, 2) := by decide +kernel
theorem dX8_init_17 : decode cX8_init 17 = .ok (.putfield 15, 3) := by decide +kernel
theorem dX8_init_20 : decode cX8_init 20 = .ok (.aload_n 0, 1) := by decide +kernel
theorem dX8_init_21 : decode cX8_init 21 = .ok (.bipush 6, 2) := by decide +kernel
theorem dX8_init_23 : decode cX8_init 23 = .ok (.newarray .int, 2) := by decide +kernel
theorem dX8_init_25 : decode cX8_init 25 = .ok (.putfield 18, 3) := by decide +kernel
theorem dX8_init_28 : decode cX8_init 28 = .ok (.aload_n 0, 1) := by decide +kernel
theorem dX8_init_29 : decode cX8_init 29 = .ok (.iconst (-1), 1) := by decide +kernel
theorem dX8_init_30 : decode cX8_init 30 = .ok (.putfield 21, 3) := by decide +kernel
theorem dX8_init_33 : decode cX8_init 33 = .ok (.aload_n 0, 1) := by decide +kernel
theorem dX8_init_34 : decode cX8_init 34 = .ok (.aload_n 1, 1) := by decide +kernel
theorem dX8_init_35 : decode cX8_init 35 = .ok (.putfield 25, 3) := by decide +kernel
theorem dX8_init_38 : decode cX8_init 38 = .ok (.aload_n 0, 1) := by decide +kernel
theorem dX8_init_39 : decode cX8_init 39 = .ok (.aload_n 2, 1) := by decide +kernel
theorem dX8_init_40 : decode cX8_init 40 = .ok (.putfield 29, 3) := by decide +kernel
theorem dX8_init_43 : decode cX8_init 43 = .ok (.return_, 1) := by decide +kernel
theorem dX8_arriving_0 : decode cX8_arriving 0 = .ok (.iload_n 2, 1) := by decide +kernel
theorem dX8_arriving_1 : decode cX8_arriving 1 = .ok (.istore_n 3, 1) := by decide +kernel
theorem dX8_arriving_2 : decode cX8_arriving 2 = .ok (.iconst 0, 1) := by decide +kernel
theorem dX8_arriving_3 : decode cX8_arriving 3 = .ok (.istore 4, 2) := by decide +kernel
theorem dX8_arriving_5 : decode cX8_arriving 5 = .ok (.iload 4, 2) := by decide +kernel
theorem dX8_arriving_7 : decode cX8_arriving 7 = .ok (.aload_n 1, 1) := by decide +kernel
theorem dX8_arriving_8 : decode cX8_arriving 8 = .ok (.getfield 33, 3) := by decide +kernel
theorem dX8_arriving_11 : decode cX8_arriving 11 = .ok (.if_icmp .ge 65, 3) := by decide +kernel
theorem dX8_arriving_14 : decode cX8_arriving 14 = .ok (.iload 4, 2) := by decide +kernel
theorem dX8_arriving_16 : decode cX8_arriving 16 = .ok (.bipush 6, 2) := by decide +kernel
theorem dX8_arriving_18 : decode cX8_arriving 18 = .ok (.if_icmp .ge 58, 3) := by decide +kernel
theorem dX8_arriving_21 : decode cX8_arriving 21 = .ok (.aload_n 0, 1) := by decide +kernel
theorem dX8_arriving_22 : decode cX8_arriving 22 = .ok (.aload_n 1, 1) := by decide +kernel
theorem dX8_arriving_23 : decode cX8_arriving 23 = .ok (.aload_n 1, 1) := by decide +kernel
theorem dX8_arriving_24 : decode cX8_arriving 24 = .ok (.aload_n 1, 1) := by decide +kernel
theorem dX8_arriving_25 : decode cX8_arriving 25 = .ok (.getfield 38, 3) := by decide +kernel
theorem dX8_arriving_28 : decode cX8_arriving 28 = .ok (.iload 4, 2) := by decide +kernel
theorem dX8_arriving_30 : decode cX8_arriving 30 = .ok (.iaload, 1) := by decide +kernel
theorem dX8_arriving_31 : decode cX8_arriving 31 = .ok (.invokevirtual 41, 3) := by decide +kernel
theorem dX8_arriving_34 : decode cX8_arriving 34 = .ok (.iload 4, 2) := by decide +kernel
theorem dX8_arriving_36 : decode cX8_arriving 36 = .ok (.iload_n 3, 1) := by decide +kernel
theorem dX8_arriving_37 : decode cX8_arriving 37 = .ok (.iload_n 2, 1) := by decide +kernel
theorem dX8_arriving_38 : decode cX8_arriving 38 = .ok (.invokevirtual 45, 3) := by decide +kernel
theorem dX8_arriving_41 : decode cX8_arriving 41 = .ok (.istore_n 3, 1) := by decide +kernel
theorem dX8_arriving_42 : decode cX8_arriving 42 = .ok (.iload 4, 2) := by decide +kernel
theorem dX8_arriving_44 : decode cX8_arriving 44 = .ok (.aload_n 0, 1) := by decide +kernel
theorem dX8_arriving_45 : decode cX8_arriving 45 = .ok (.getfield 21, 3) := by decide +kernel
theorem dX8_arriving_48 : decode cX8_arriving 48 = .ok (.if_icmp .ne 14, 3) := by decide +kernel
theorem dX8_arriving_51 : decode cX8_arriving 51 = .ok (.iconst 0, 1) := by decide +kernel
theorem dX8_arriving_52 : decode cX8_arriving 52 = .ok (.iload_n 3, 1) := by decide +kernel
theorem dX8_arriving_53 : decode cX8_arriving 53 = .ok (.aload_n 0, 1) := by decide +kernel
theorem dX8_arriving_54 : decode cX8_arriving 54 = .ok (.getfield 49, 3) := by decide +kernel
theorem dX8_arriving_57 : decode cX8_arriving 57 = .ok (.isub, 1) := by decide +kernel
theorem dX8_arriving_58 : decode cX8_arriving 58 = .ok (.invokestatic 52, 3) := by decide +kernel
theorem dX8_arriving_61 : decode cX8_arriving 61 = .ok (.istore_n 3, 1) := by decide +kernel
theorem dX8_arriving_62 : decode cX8_arriving 62 = .ok (.aload_n 0, 1) := by decide +kernel
theorem dX8_arriving_63 : decode cX8_arriving 63 = .ok (.getfield 9, 3) := by decide +kernel
theorem dX8_arriving_66 : decode cX8_arriving 66 = .ok (.iload 4, 2) := by decide +kernel
theorem dX8_arriving_68 : decode cX8_arriving 68 = .ok (.iload_n 3, 1) := by decide +kernel
theorem dX8_arriving_69 : decode cX8_arriving 69 = .ok (.iastore, 1) := by decide +kernel
theorem dX8_arriving_70 : decode cX8_arriving 70 = .ok (.iinc 4 1, 3) := by decide +kernel
theorem dX8_arriving_73 : decode cX8_arriving 73 = .ok (.goto (-68), 3) := by decide +kernel
theorem dX8_arriving_76 : decode cX8_arriving 76 = .ok (.iload_n 3, 1) := by decide +kernel
theorem dX8_arriving_77 : decode cX8_arriving 77 = .ok (.ireturn, 1) := by decide +kernel
theorem dX8_behindPiece_0 : decode cX8_behindPiece 0 = .ok (.iload_n 2, 1) := by decide +kernel
theorem dX8_behindPiece_1 : decode cX8_behindPiece 1 = .ok (.iconst 1, 1) := by decide +kernel
theorem dX8_behindPiece_2 : decode cX8_behindPiece 2 = .ok (.ishr, 1) := by decide +kernel
theorem dX8_behindPiece_3 : decode cX8_behindPiece 3 = .ok (.istore 6, 2) := by decide +kernel
theorem dX8_behindPiece_5 : decode cX8_behindPiece 5 = .ok (.aload_n 1, 1) := by decide +kernel
theorem dX8_behindPiece_6 : decode cX8_behindPiece 6 = .ok (.getfield 58, 3) := by decide +kernel
theorem dX8_behindPiece_9 : decode cX8_behindPiece 9 = .ok (.iload 6, 2) := by decide +kernel
theorem dX8_behindPiece_11 : decode cX8_behindPiece 11 = .ok (.invokestatic 61, 3) := by decide +kernel
theorem dX8_behindPiece_14 : decode cX8_behindPiece 14 = .ok (.aload_n 0, 1) := by decide +kernel
theorem dX8_behindPiece_15 : decode cX8_behindPiece 15 = .ok (.getfield 15, 3) := by decide +kernel
theorem dX8_behindPiece_18 : decode cX8_behindPiece 18 = .ok (.iload_n 3, 1) := by decide +kernel
theorem dX8_behindPiece_19 : decode cX8_behindPiece 19 = .ok (.invokestatic 61, 3) := by decide +kernel
theorem dX8_behindPiece_22 : decode cX8_behindPiece 22 = .ok (.iadd, 1) := by decide +kernel
theorem dX8_behindPiece_23 : decode cX8_behindPiece 23 = .ok (.istore 7, 2) := by decide +kernel
theorem dX8_behindPiece_25 : decode cX8_behindPiece 25 = .ok (.aload_n 1, 1) := by decide +kernel
theorem dX8_behindPiece_26 : decode cX8_behindPiece 26 = .ok (.getfield 65, 3) := by decide +kernel
theorem dX8_behindPiece_29 : decode cX8_behindPiece 29 = .ok (.iload 6, 2) := by decide +kernel
theorem dX8_behindPiece_31 : decode cX8_behindPiece 31 = .ok (.invokestatic 61, 3) := by decide +kernel
theorem dX8_behindPiece_34 : decode cX8_behindPiece 34 = .ok (.aload_n 0, 1) := by decide +kernel
theorem dX8_behindPiece_35 : decode cX8_behindPiece 35 = .ok (.getfield 18, 3) := by decide +kernel
theorem dX8_behindPiece_38 : decode cX8_behindPiece 38 = .ok (.iload_n 3, 1) := by decide +kernel
theorem dX8_behindPiece_39 : decode cX8_behindPiece 39 = .ok (.invokestatic 61, 3) := by decide +kernel
theorem dX8_behindPiece_42 : decode cX8_behindPiece 42 = .ok (.iadd, 1) := by decide +kernel
theorem dX8_behindPiece_43 : decode cX8_behindPiece 43 = .ok (.istore 8, 2) := by decide +kernel
theorem dX8_behindPiece_45 : decode cX8_behindPiece 45 = .ok (.aload_n 0, 1) := by decide +kernel
theorem dX8_behindPiece_46 : decode cX8_behindPiece 46 = .ok (.getfield 29, 3) := by decide +kernel
theorem dX8_behindPiece_49 : decode cX8_behindPiece 49 = .ok (.aload_n 0, 1) := by decide +kernel
theorem dX8_behindPiece_50 : decode cX8_behindPiece 50 = .ok (.getfield 25, 3) := by decide +kernel
theorem dX8_behindPiece_53 : decode cX8_behindPiece 53 = .ok (.getfield 68, 3) := by decide +kernel
theorem dX8_behindPiece_56 : decode cX8_behindPiece 56 = .ok (.iload 6, 2) := by decide +kernel
theorem dX8_behindPiece_58 : decode cX8_behindPiece 58 = .ok (.invokestatic 61, 3) := by decide +kernel
theorem dX8_behindPiece_61 : decode cX8_behindPiece 61 = .ok (.aload_n 0, 1) := by decide +kernel
theorem dX8_behindPiece_62 : decode cX8_behindPiece 62 = .ok (.getfield 25, 3) := by decide +kernel
theorem dX8_behindPiece_65 : decode cX8_behindPiece 65 = .ok (.getfield 73, 3) := by decide +kernel
theorem dX8_behindPiece_68 : decode cX8_behindPiece 68 = .ok (.iload 6, 2) := by decide +kernel
theorem dX8_behindPiece_70 : decode cX8_behindPiece 70 = .ok (.invokestatic 61, 3) := by decide +kernel
theorem dX8_behindPiece_73 : decode cX8_behindPiece 73 = .ok (.iload_n 2, 1) := by decide +kernel
theorem dX8_behindPiece_74 : decode cX8_behindPiece 74 = .ok (.iconst 1, 1) := by decide +kernel
theorem dX8_behindPiece_75 : decode cX8_behindPiece 75 = .ok (.iand, 1) := by decide +kernel
theorem dX8_behindPiece_76 : decode cX8_behindPiece 76 = .ok (.iload 6, 2) := by decide +kernel
theorem dX8_behindPiece_78 : decode cX8_behindPiece 78 = .ok (.invokevirtual 76, 3) := by decide +kernel
theorem dX8_behindPiece_81 : decode cX8_behindPiece 81 = .ok (.aload_n 0, 1) := by decide +kernel
theorem dX8_behindPiece_82 : decode cX8_behindPiece 82 = .ok (.getfield 29, 3) := by decide +kernel
theorem dX8_behindPiece_85 : decode cX8_behindPiece 85 = .ok (.iload 4, 2) := by decide +kernel
theorem dX8_behindPiece_87 : decode cX8_behindPiece 87 = .ok (.iload 7, 2) := by decide +kernel
theorem dX8_behindPiece_89 : decode cX8_behindPiece 89 = .ok (.iload 8, 2) := by decide +kernel
theorem dX8_behindPiece_91 : decode cX8_behindPiece 91 = .ok (.iload_n 3, 1) := by decide +kernel
theorem dX8_behindPiece_92 : decode cX8_behindPiece 92 = .ok (.iload 5, 2) := by decide +kernel
theorem dX8_behindPiece_94 : decode cX8_behindPiece 94 = .ok (.invokevirtual 82, 3) := by decide +kernel
theorem dX8_behindPiece_97 : decode cX8_behindPiece 97 = .ok (.aload_n 0, 1) := by decide +kernel
theorem dX8_behindPiece_98 : decode cX8_behindPiece 98 = .ok (.getfield 29, 3) := by decide +kernel
theorem dX8_behindPiece_101 : decode cX8_behindPiece 101 = .ok (.invokevirtual 86, 3) := by decide +kernel
theorem dX8_behindPiece_104 : decode cX8_behindPiece 104 = .ok (.ireturn, 1) := by decide +kernel
theorem dX8_reachedBits_0 : decode cX8_reachedBits 0 = .ok (.aload_n 0, 1) := by decide +kernel
theorem dX8_reachedBits_1 : decode cX8_reachedBits 1 = .ok (.getfield 25, 3) := by decide +kernel
theorem dX8_reachedBits_4 : decode cX8_reachedBits 4 = .ok (.getfield 89, 3) := by decide +kernel
theorem dX8_reachedBits_7 : decode cX8_reachedBits 7 = .ok (.ifCond .ne 5, 3) := by decide +kernel
theorem dX8_reachedBits_10 : decode cX8_reachedBits 10 = .ok (.iconst 0, 1) := by decide +kernel
theorem dX8_reachedBits_11 : decode cX8_reachedBits 11 = .ok (.ireturn, 1) := by decide +kernel
theorem dX8_reachedBits_12 : decode cX8_reachedBits 12 = .ok (.aload_n 0, 1) := by decide +kernel
theorem dX8_reachedBits_13 : decode cX8_reachedBits 13 = .ok (.aload_n 1, 1) := by decide +kernel
theorem dX8_reachedBits_14 : decode cX8_reachedBits 14 = .ok (.aload_n 1, 1) := by decide +kernel
theorem dX8_reachedBits_15 : decode cX8_reachedBits 15 = .ok (.getfield 92, 3) := by decide +kernel
theorem dX8_reachedBits_18 : decode cX8_reachedBits 18 = .ok (.invokevirtual 95, 3) := by decide +kernel
theorem dX8_reachedBits_21 : decode cX8_reachedBits 21 = .ok (.istore_n 2, 1) := by decide +kernel
theorem dX8_reachedBits_22 : decode cX8_reachedBits 22 = .ok (.aload_n 1, 1) := by decide +kernel
theorem dX8_reachedBits_23 : decode cX8_reachedBits 23 = .ok (.aload_n 0, 1) := by decide +kernel
theorem dX8_reachedBits_24 : decode cX8_reachedBits 24 = .ok (.getfield 25, 3) := by decide +kernel
theorem dX8_reachedBits_27 : decode cX8_reachedBits 27 = .ok (.invokevirtual 99, 3) := by decide +kernel
theorem dX8_reachedBits_30 : decode cX8_reachedBits 30 = .ok (.istore_n 3, 1) := by decide +kernel
theorem dX8_reachedBits_31 : decode cX8_reachedBits 31 = .ok (.iconst 0, 1) := by decide +kernel
theorem dX8_reachedBits_32 : decode cX8_reachedBits 32 = .ok (.istore 4, 2) := by decide +kernel
theorem dX8_reachedBits_34 : decode cX8_reachedBits 34 = .ok (.iconst 0, 1) := by decide +kernel
theorem dX8_reachedBits_35 : decode cX8_reachedBits 35 = .ok (.istore 5, 2) := by decide +kernel
theorem dX8_reachedBits_37 : decode cX8_reachedBits 37 = .ok (.iload 5, 2) := by decide +kernel
theorem dX8_reachedBits_39 : decode cX8_reachedBits 39 = .ok (.aload_n 0, 1) := by decide +kernel
theorem dX8_reachedBits_40 : decode cX8_reachedBits 40 = .ok (.getfield 25, 3) := by decide +kernel
theorem dX8_reachedBits_43 : decode cX8_reachedBits 43 = .ok (.getfield 89, 3) := by decide +kernel
theorem dX8_reachedBits_46 : decode cX8_reachedBits 46 = .ok (.if_icmp .ge 32, 3) := by decide +kernel
theorem dX8_reachedBits_49 : decode cX8_reachedBits 49 = .ok (.aload_n 0, 1) := by decide +kernel
theorem dX8_reachedBits_50 : decode cX8_reachedBits 50 = .ok (.getfield 25, 3) := by decide +kernel
theorem dX8_reachedBits_53 : decode cX8_reachedBits 53 = .ok (.iload 5, 2) := by decide +kernel
theorem dX8_reachedBits_55 : decode cX8_reachedBits 55 = .ok (.iload_n 3, 1) := by decide +kernel
theorem dX8_reachedBits_56 : decode cX8_reachedBits 56 = .ok (.iload_n 2, 1) := by decide +kernel
theorem dX8_reachedBits_57 : decode cX8_reachedBits 57 = .ok (.invokevirtual 103, 3) := by decide +kernel
theorem dX8_reachedBits_60 : decode cX8_reachedBits 60 = .ok (.ifCond .eq 12, 3) := by decide +kernel
theorem dX8_reachedBits_63 : decode cX8_reachedBits 63 = .ok (.iload 4, 2) := by decide +kernel
theorem dX8_reachedBits_65 : decode cX8_reachedBits 65 = .ok (.iconst 1, 1) := by decide +kernel
theorem dX8_reachedBits_66 : decode cX8_reachedBits 66 = .ok (.iload 5, 2) := by decide +kernel
theorem dX8_reachedBits_68 : decode cX8_reachedBits 68 = .ok (.ishl, 1) := by decide +kernel
theorem dX8_reachedBits_69 : decode cX8_reachedBits 69 = .ok (.ior, 1) := by decide +kernel
theorem dX8_reachedBits_70 : decode cX8_reachedBits 70 = .ok (.istore 4, 2) := by decide +kernel
theorem dX8_reachedBits_72 : decode cX8_reachedBits 72 = .ok (.iinc 5 1, 3) := by decide +kernel
theorem dX8_reachedBits_75 : decode cX8_reachedBits 75 = .ok (.goto (-38), 3) := by decide +kernel
theorem dX8_reachedBits_78 : decode cX8_reachedBits 78 = .ok (.iload 4, 2) := by decide +kernel
theorem dX8_reachedBits_80 : decode cX8_reachedBits 80 = .ok (.ireturn, 1) := by decide +kernel
theorem dX8_worstPlace_0 : decode cX8_worstPlace 0 = .ok (.aload_n 0, 1) := by decide +kernel
theorem dX8_worstPlace_1 : decode cX8_worstPlace 1 = .ok (.aload_n 1, 1) := by decide +kernel
theorem dX8_worstPlace_2 : decode cX8_worstPlace 2 = .ok (.aload_n 1, 1) := by decide +kernel
theorem dX8_worstPlace_3 : decode cX8_worstPlace 3 = .ok (.getfield 92, 3) := by decide +kernel
theorem dX8_worstPlace_6 : decode cX8_worstPlace 6 = .ok (.invokevirtual 95, 3) := by decide +kernel
theorem dX8_worstPlace_9 : decode cX8_worstPlace 9 = .ok (.pop, 1) := by decide +kernel
theorem dX8_worstPlace_10 : decode cX8_worstPlace 10 = .ok (.iconst (-1), 1) := by decide +kernel
theorem dX8_worstPlace_11 : decode cX8_worstPlace 11 = .ok (.istore_n 2, 1) := by decide +kernel
theorem dX8_worstPlace_12 : decode cX8_worstPlace 12 = .ok (.iconst 0, 1) := by decide +kernel
theorem dX8_worstPlace_13 : decode cX8_worstPlace 13 = .ok (.istore_n 3, 1) := by decide +kernel
theorem dX8_worstPlace_14 : decode cX8_worstPlace 14 = .ok (.iload_n 3, 1) := by decide +kernel
theorem dX8_worstPlace_15 : decode cX8_worstPlace 15 = .ok (.aload_n 1, 1) := by decide +kernel
theorem dX8_worstPlace_16 : decode cX8_worstPlace 16 = .ok (.getfield 33, 3) := by decide +kernel
theorem dX8_worstPlace_19 : decode cX8_worstPlace 19 = .ok (.if_icmp .ge 37, 3) := by decide +kernel
theorem dX8_worstPlace_22 : decode cX8_worstPlace 22 = .ok (.iload_n 3, 1) := by decide +kernel
theorem dX8_worstPlace_23 : decode cX8_worstPlace 23 = .ok (.bipush 6, 2) := by decide +kernel
theorem dX8_worstPlace_25 : decode cX8_worstPlace 25 = .ok (.if_icmp .ge 31, 3) := by decide +kernel
theorem dX8_worstPlace_28 : decode cX8_worstPlace 28 = .ok (.iload_n 2, 1) := by decide +kernel
theorem dX8_worstPlace_29 : decode cX8_worstPlace 29 = .ok (.iconst (-1), 1) := by decide +kernel
theorem dX8_worstPlace_30 : decode cX8_worstPlace 30 = .ok (.if_icmp .eq 18, 3) := by decide +kernel
theorem dX8_worstPlace_33 : decode cX8_worstPlace 33 = .ok (.aload_n 0, 1) := by decide +kernel
theorem dX8_worstPlace_34 : decode cX8_worstPlace 34 = .ok (.aload_n 1, 1) := by decide +kernel
theorem dX8_worstPlace_35 : decode cX8_worstPlace 35 = .ok (.iload_n 3, 1) := by decide +kernel
theorem dX8_worstPlace_36 : decode cX8_worstPlace 36 = .ok (.invokevirtual 107, 3) := by decide +kernel
theorem dX8_worstPlace_39 : decode cX8_worstPlace 39 = .ok (.aload_n 0, 1) := by decide +kernel
theorem dX8_worstPlace_40 : decode cX8_worstPlace 40 = .ok (.aload_n 1, 1) := by decide +kernel
theorem dX8_worstPlace_41 : decode cX8_worstPlace 41 = .ok (.iload_n 2, 1) := by decide +kernel
theorem dX8_worstPlace_42 : decode cX8_worstPlace 42 = .ok (.invokevirtual 107, 3) := by decide +kernel
theorem dX8_worstPlace_45 : decode cX8_worstPlace 45 = .ok (.if_icmp .le 5, 3) := by decide +kernel
theorem dX8_worstPlace_48 : decode cX8_worstPlace 48 = .ok (.iload_n 3, 1) := by decide +kernel
theorem dX8_worstPlace_49 : decode cX8_worstPlace 49 = .ok (.istore_n 2, 1) := by decide +kernel
theorem dX8_worstPlace_50 : decode cX8_worstPlace 50 = .ok (.iinc 3 1, 3) := by decide +kernel
theorem dX8_worstPlace_53 : decode cX8_worstPlace 53 = .ok (.goto (-39), 3) := by decide +kernel
theorem dX8_worstPlace_56 : decode cX8_worstPlace 56 = .ok (.iload_n 2, 1) := by decide +kernel
theorem dX8_worstPlace_57 : decode cX8_worstPlace 57 = .ok (.ireturn, 1) := by decide +kernel
theorem dX8_lostAt_0 : decode cX8_lostAt 0 = .ok (.iload_n 2, 1) := by decide +kernel
theorem dX8_lostAt_1 : decode cX8_lostAt 1 = .ok (.ifCond .ne 10, 3) := by decide +kernel
theorem dX8_lostAt_4 : decode cX8_lostAt 4 = .ok (.aload_n 1, 1) := by decide +kernel
theorem dX8_lostAt_5 : decode cX8_lostAt 5 = .ok (.getfield 92, 3) := by decide +kernel
theorem dX8_lostAt_8 : decode cX8_lostAt 8 = .ok (.goto 13, 3) := by decide +kernel
theorem dX8_lostAt_11 : decode cX8_lostAt 11 = .ok (.aload_n 0, 1) := by decide +kernel
theorem dX8_lostAt_12 : decode cX8_lostAt 12 = .ok (.getfield 9, 3) := by decide +kernel
theorem dX8_lostAt_15 : decode cX8_lostAt 15 = .ok (.iload_n 2, 1) := by decide +kernel
theorem dX8_lostAt_16 : decode cX8_lostAt 16 = .ok (.iconst 1, 1) := by decide +kernel
theorem dX8_lostAt_17 : decode cX8_lostAt 17 = .ok (.isub, 1) := by decide +kernel
theorem dX8_lostAt_18 : decode cX8_lostAt 18 = .ok (.invokestatic 61, 3) := by decide +kernel
theorem dX8_lostAt_21 : decode cX8_lostAt 21 = .ok (.istore_n 3, 1) := by decide +kernel
theorem dX8_lostAt_22 : decode cX8_lostAt 22 = .ok (.iload_n 3, 1) := by decide +kernel
theorem dX8_lostAt_23 : decode cX8_lostAt 23 = .ok (.aload_n 0, 1) := by decide +kernel
theorem dX8_lostAt_24 : decode cX8_lostAt 24 = .ok (.getfield 9, 3) := by decide +kernel
theorem dX8_lostAt_27 : decode cX8_lostAt 27 = .ok (.iload_n 2, 1) := by decide +kernel
theorem dX8_lostAt_28 : decode cX8_lostAt 28 = .ok (.invokestatic 61, 3) := by decide +kernel
theorem dX8_lostAt_31 : decode cX8_lostAt 31 = .ok (.isub, 1) := by decide +kernel
theorem dX8_lostAt_32 : decode cX8_lostAt 32 = .ok (.ireturn, 1) := by decide +kernel
theorem dX8_chanceOf_0 : decode cX8_chanceOf 0 = .ok (.aload_n 1, 1) := by decide +kernel
theorem dX8_chanceOf_1 : decode cX8_chanceOf 1 = .ok (.aload_n 0, 1) := by decide +kernel
theorem dX8_chanceOf_2 : decode cX8_chanceOf 2 = .ok (.getfield 25, 3) := by decide +kernel
theorem dX8_chanceOf_5 : decode cX8_chanceOf 5 = .ok (.invokevirtual 99, 3) := by decide +kernel
theorem dX8_chanceOf_8 : decode cX8_chanceOf 8 = .ok (.istore 4, 2) := by decide +kernel
theorem dX8_chanceOf_10 : decode cX8_chanceOf 10 = .ok (.lconst 0, 1) := by decide +kernel
theorem dX8_chanceOf_11 : decode cX8_chanceOf 11 = .ok (.lstore 5, 2) := by decide +kernel
theorem dX8_chanceOf_13 : decode cX8_chanceOf 13 = .ok (.iconst 0, 1) := by decide +kernel
theorem dX8_chanceOf_14 : decode cX8_chanceOf 14 = .ok (.istore 7, 2) := by decide +kernel
theorem dX8_chanceOf_16 : decode cX8_chanceOf 16 = .ok (.iload 7, 2) := by decide +kernel
theorem dX8_chanceOf_18 : decode cX8_chanceOf 18 = .ok (.iconst 1, 1) := by decide +kernel
theorem dX8_chanceOf_19 : decode cX8_chanceOf 19 = .ok (.aload_n 1, 1) := by decide +kernel
theorem dX8_chanceOf_20 : decode cX8_chanceOf 20 = .ok (.getfield 33, 3) := by decide +kernel
theorem dX8_chanceOf_23 : decode cX8_chanceOf 23 = .ok (.ishl, 1) := by decide +kernel
theorem dX8_chanceOf_24 : decode cX8_chanceOf 24 = .ok (.if_icmp .ge 113, 3) := by decide +kernel
theorem dX8_chanceOf_27 : decode cX8_chanceOf 27 = .ok (.lconst 1, 1) := by decide +kernel
theorem dX8_chanceOf_28 : decode cX8_chanceOf 28 = .ok (.lstore 8, 2) := by decide +kernel
theorem dX8_chanceOf_30 : decode cX8_chanceOf 30 = .ok (.iconst 0, 1) := by decide +kernel
theorem dX8_chanceOf_31 : decode cX8_chanceOf 31 = .ok (.istore 10, 2) := by decide +kernel
theorem dX8_chanceOf_33 : decode cX8_chanceOf 33 = .ok (.iload 10, 2) := by decide +kernel
theorem dX8_chanceOf_35 : decode cX8_chanceOf 35 = .ok (.aload_n 1, 1) := by decide +kernel
theorem dX8_chanceOf_36 : decode cX8_chanceOf 36 = .ok (.getfield 33, 3) := by decide +kernel
theorem dX8_chanceOf_39 : decode cX8_chanceOf 39 = .ok (.if_icmp .ge 56, 3) := by decide +kernel
theorem dX8_chanceOf_42 : decode cX8_chanceOf 42 = .ok (.iload 10, 2) := by decide +kernel
theorem dX8_chanceOf_44 : decode cX8_chanceOf 44 = .ok (.bipush 6, 2) := by decide +kernel
theorem dX8_chanceOf_46 : decode cX8_chanceOf 46 = .ok (.if_icmp .ge 49, 3) := by decide +kernel
theorem dX8_chanceOf_49 : decode cX8_chanceOf 49 = .ok (.aload_n 0, 1) := by decide +kernel
theorem dX8_chanceOf_50 : decode cX8_chanceOf 50 = .ok (.getfield 18, 3) := by decide +kernel
theorem dX8_chanceOf_53 : decode cX8_chanceOf 53 = .ok (.iload 10, 2) := by decide +kernel
theorem dX8_chanceOf_55 : decode cX8_chanceOf 55 = .ok (.iload 7, 2) := by decide +kernel
theorem dX8_chanceOf_57 : decode cX8_chanceOf 57 = .ok (.iload 10, 2) := by decide +kernel
theorem dX8_chanceOf_59 : decode cX8_chanceOf 59 = .ok (.invokestatic 110, 3) := by decide +kernel
theorem dX8_chanceOf_62 : decode cX8_chanceOf 62 = .ok (.iastore, 1) := by decide +kernel
theorem dX8_chanceOf_63 : decode cX8_chanceOf 63 = .ok (.lload 8, 2) := by decide +kernel
theorem dX8_chanceOf_65 : decode cX8_chanceOf 65 = .ok (.aload_n 0, 1) := by decide +kernel
theorem dX8_chanceOf_66 : decode cX8_chanceOf 66 = .ok (.getfield 18, 3) := by decide +kernel
theorem dX8_chanceOf_69 : decode cX8_chanceOf 69 = .ok (.iload 10, 2) := by decide +kernel
theorem dX8_chanceOf_71 : decode cX8_chanceOf 71 = .ok (.iaload, 1) := by decide +kernel
theorem dX8_chanceOf_72 : decode cX8_chanceOf 72 = .ok (.iconst 1, 1) := by decide +kernel
theorem dX8_chanceOf_73 : decode cX8_chanceOf 73 = .ok (.if_icmp .ne 8, 3) := by decide +kernel
theorem dX8_chanceOf_76 : decode cX8_chanceOf 76 = .ok (.iload_n 3, 1) := by decide +kernel
theorem dX8_chanceOf_77 : decode cX8_chanceOf 77 = .ok (.i2l, 1) := by decide +kernel
theorem dX8_chanceOf_78 : decode cX8_chanceOf 78 = .ok (.goto 8, 3) := by decide +kernel
theorem dX8_chanceOf_81 : decode cX8_chanceOf 81 = .ok (.bipush 16, 2) := by decide +kernel
theorem dX8_chanceOf_83 : decode cX8_chanceOf 83 = .ok (.iload_n 3, 1) := by decide +kernel
theorem dX8_chanceOf_84 : decode cX8_chanceOf 84 = .ok (.isub, 1) := by decide +kernel
theorem dX8_chanceOf_85 : decode cX8_chanceOf 85 = .ok (.i2l, 1) := by decide +kernel
theorem dX8_chanceOf_86 : decode cX8_chanceOf 86 = .ok (.lmul, 1) := by decide +kernel
theorem dX8_chanceOf_87 : decode cX8_chanceOf 87 = .ok (.lstore 8, 2) := by decide +kernel
theorem dX8_chanceOf_89 : decode cX8_chanceOf 89 = .ok (.iinc 10 1, 3) := by decide +kernel
theorem dX8_chanceOf_92 : decode cX8_chanceOf 92 = .ok (.goto (-59), 3) := by decide +kernel
theorem dX8_chanceOf_95 : decode cX8_chanceOf 95 = .ok (.lload 8, 2) := by decide +kernel
theorem dX8_chanceOf_97 : decode cX8_chanceOf 97 = .ok (.lconst 0, 1) := by decide +kernel
theorem dX8_chanceOf_98 : decode cX8_chanceOf 98 = .ok (.lcmp, 1) := by decide +kernel
theorem dX8_chanceOf_99 : decode cX8_chanceOf 99 = .ok (.ifCond .le 32, 3) := by decide +kernel
theorem dX8_chanceOf_102 : decode cX8_chanceOf 102 = .ok (.aload_n 0, 1) := by decide +kernel
theorem dX8_chanceOf_103 : decode cX8_chanceOf 103 = .ok (.getfield 25, 3) := by decide +kernel
theorem dX8_chanceOf_106 : decode cX8_chanceOf 106 = .ok (.iload_n 2, 1) := by decide +kernel
theorem dX8_chanceOf_107 : decode cX8_chanceOf 107 = .ok (.iload 4, 2) := by decide +kernel
theorem dX8_chanceOf_109 : decode cX8_chanceOf 109 = .ok (.aload_n 0, 1) := by decide +kernel
theorem dX8_chanceOf_110 : decode cX8_chanceOf 110 = .ok (.aload_n 1, 1) := by decide +kernel
theorem dX8_chanceOf_111 : decode cX8_chanceOf 111 = .ok (.aload_n 1, 1) := by decide +kernel
theorem dX8_chanceOf_112 : decode cX8_chanceOf 112 = .ok (.getfield 92, 3) := by decide +kernel
theorem dX8_chanceOf_115 : decode cX8_chanceOf 115 = .ok (.invokevirtual 95, 3) := by decide +kernel
theorem dX8_chanceOf_118 : decode cX8_chanceOf 118 = .ok (.invokevirtual 103, 3) := by decide +kernel
theorem dX8_chanceOf_121 : decode cX8_chanceOf 121 = .ok (.ifCond .eq 10, 3) := by decide +kernel
theorem dX8_chanceOf_124 : decode cX8_chanceOf 124 = .ok (.lload 5, 2) := by decide +kernel
theorem dX8_chanceOf_126 : decode cX8_chanceOf 126 = .ok (.lload 8, 2) := by decide +kernel
theorem dX8_chanceOf_128 : decode cX8_chanceOf 128 = .ok (.ladd, 1) := by decide +kernel
theorem dX8_chanceOf_129 : decode cX8_chanceOf 129 = .ok (.lstore 5, 2) := by decide +kernel
theorem dX8_chanceOf_131 : decode cX8_chanceOf 131 = .ok (.iinc 7 1, 3) := by decide +kernel
theorem dX8_chanceOf_134 : decode cX8_chanceOf 134 = .ok (.goto (-118), 3) := by decide +kernel
theorem dX8_chanceOf_137 : decode cX8_chanceOf 137 = .ok (.aload_n 0, 1) := by decide +kernel
theorem dX8_chanceOf_138 : decode cX8_chanceOf 138 = .ok (.getfield 18, 3) := by decide +kernel
theorem dX8_chanceOf_141 : decode cX8_chanceOf 141 = .ok (.iconst 0, 1) := by decide +kernel
theorem dX8_chanceOf_142 : decode cX8_chanceOf 142 = .ok (.invokestatic 113, 3) := by decide +kernel
theorem dX8_chanceOf_145 : decode cX8_chanceOf 145 = .ok (.lload 5, 2) := by decide +kernel
theorem dX8_chanceOf_147 : decode cX8_chanceOf 147 = .ok (.lreturn, 1) := by decide +kernel
theorem dX9_init_0 : decode cX9_init 0 = .ok (.aload_n 0, 1) := by decide +kernel
theorem dX9_init_1 : decode cX9_init 1 = .ok (.invokespecial 5, 3) := by decide +kernel
theorem dX9_init_4 : decode cX9_init 4 = .ok (.aload_n 0, 1) := by decide +kernel
theorem dX9_init_5 : decode cX9_init 5 = .ok (.bipush 75, 2) := by decide +kernel
theorem dX9_init_7 : decode cX9_init 7 = .ok (.newarray .int, 2) := by decide +kernel
theorem dX9_init_9 : decode cX9_init 9 = .ok (.putfield 11, 3) := by decide +kernel
theorem dX9_init_12 : decode cX9_init 12 = .ok (.aload_n 0, 1) := by decide +kernel
theorem dX9_init_13 : decode cX9_init 13 = .ok (.bipush 75, 2) := by decide +kernel
theorem dX9_init_15 : decode cX9_init 15 = .ok (.newarray .int, 2) := by decide +kernel
theorem dX9_init_17 : decode cX9_init 17 = .ok (.putfield 15, 3) := by decide +kernel
theorem dX9_init_20 : decode cX9_init 20 = .ok (.aload_n 0, 1) := by decide +kernel
theorem dX9_init_21 : decode cX9_init 21 = .ok (.bipush 75, 2) := by decide +kernel
theorem dX9_init_23 : decode cX9_init 23 = .ok (.newarray .int, 2) := by decide +kernel
theorem dX9_init_25 : decode cX9_init 25 = .ok (.putfield 18, 3) := by decide +kernel
theorem dX9_init_28 : decode cX9_init 28 = .ok (.aload_n 0, 1) := by decide +kernel
theorem dX9_init_29 : decode cX9_init 29 = .ok (.bipush 6, 2) := by decide +kernel
theorem dX9_init_31 : decode cX9_init 31 = .ok (.newarray .int, 2) := by decide +kernel
theorem dX9_init_33 : decode cX9_init 33 = .ok (.putfield 21, 3) := by decide +kernel
theorem dX9_init_36 : decode cX9_init 36 = .ok (.aload_n 0, 1) := by decide +kernel
theorem dX9_init_37 : decode cX9_init 37 = .ok (.bipush 6, 2) := by decide +kernel
theorem dX9_init_39 : decode cX9_init 39 = .ok (.newarray .int, 2) := by decide +kernel
theorem dX9_init_41 : decode cX9_init 41 = .ok (.putfield 24, 3) := by decide +kernel
theorem dX9_init_44 : decode cX9_init 44 = .ok (.return_, 1) := by decide +kernel
theorem dX9_readFrom_0 : decode cX9_readFrom 0 = .ok (.aload_n 0, 1) := by decide +kernel
theorem dX9_readFrom_1 : decode cX9_readFrom 1 = .ok (.iconst 0, 1) := by decide +kernel
theorem dX9_readFrom_2 : decode cX9_readFrom 2 = .ok (.putfield 27, 3) := by decide +kernel
theorem dX9_readFrom_5 : decode cX9_readFrom 5 = .ok (.aload_n 0, 1) := by decide +kernel
theorem dX9_readFrom_6 : decode cX9_readFrom 6 = .ok (.iconst 0, 1) := by decide +kernel
theorem dX9_readFrom_7 : decode cX9_readFrom 7 = .ok (.putfield 31, 3) := by decide +kernel
theorem dX9_readFrom_10 : decode cX9_readFrom 10 = .ok (.iconst 0, 1) := by decide +kernel
theorem dX9_readFrom_11 : decode cX9_readFrom 11 = .ok (.istore_n 3, 1) := by decide +kernel
theorem dX9_readFrom_12 : decode cX9_readFrom 12 = .ok (.iload_n 3, 1) := by decide +kernel
theorem dX9_readFrom_13 : decode cX9_readFrom 13 = .ok (.sipush 150, 3) := by decide +kernel
theorem dX9_readFrom_16 : decode cX9_readFrom 16 = .ok (.if_icmp .gt 67, 3) := by decide +kernel
theorem dX9_readFrom_19 : decode cX9_readFrom 19 = .ok (.aload_n 1, 1) := by decide +kernel
theorem dX9_readFrom_20 : decode cX9_readFrom 20 = .ok (.invokevirtual 34, 3) := by decide +kernel
theorem dX9_readFrom_23 : decode cX9_readFrom 23 = .ok (.istore 4, 2) := by decide +kernel
theorem dX9_readFrom_25 : decode cX9_readFrom 25 = .ok (.iload 4, 2) := by decide +kernel
theorem dX9_readFrom_27 : decode cX9_readFrom 27 = .ok (.iconst (-1), 1) := by decide +kernel
theorem dX9_readFrom_28 : decode cX9_readFrom 28 = .ok (.if_icmp .ne 12, 3) := by decide +kernel
theorem dX9_readFrom_31 : decode cX9_readFrom 31 = .ok (.aload_n 0, 1) := by decide +kernel
theorem dX9_readFrom_32 : decode cX9_readFrom 32 = .ok (.getfield 31, 3) := by decide +kernel
theorem dX9_readFrom_35 : decode cX9_readFrom 35 = .ok (.ifCond .ne 5, 3) := by decide +kernel
theorem dX9_readFrom_38 : decode cX9_readFrom 38 = .ok (.iconst 1, 1) := by decide +kernel
theorem dX9_readFrom_39 : decode cX9_readFrom 39 = .ok (.ireturn, 1) := by decide +kernel
theorem dX9_readFrom_40 : decode cX9_readFrom 40 = .ok (.iload 4, 2) := by decide +kernel
theorem dX9_readFrom_42 : decode cX9_readFrom 42 = .ok (.bipush 93, 2) := by decide +kernel
theorem dX9_readFrom_44 : decode cX9_readFrom 44 = .ok (.if_icmp .ne 18, 3) := by decide +kernel
theorem dX9_readFrom_47 : decode cX9_readFrom 47 = .ok (.aload_n 0, 1) := by decide +kernel
theorem dX9_readFrom_48 : decode cX9_readFrom 48 = .ok (.getfield 31, 3) := by decide +kernel
theorem dX9_readFrom_51 : decode cX9_readFrom 51 = .ok (.ifCond .le 11, 3) := by decide +kernel
theorem dX9_readFrom_54 : decode cX9_readFrom 54 = .ok (.aload_n 0, 1) := by decide +kernel
theorem dX9_readFrom_55 : decode cX9_readFrom 55 = .ok (.aload_n 1, 1) := by decide +kernel
theorem dX9_readFrom_56 : decode cX9_readFrom 56 = .ok (.invokevirtual 40, 3) := by decide +kernel
theorem dX9_readFrom_59 : decode cX9_readFrom 59 = .ok (.goto 9, 3) := by decide +kernel
theorem dX9_readFrom_62 : decode cX9_readFrom 62 = .ok (.aload_n 0, 1) := by decide +kernel
theorem dX9_readFrom_63 : decode cX9_readFrom 63 = .ok (.aload_n 1, 1) := by decide +kernel
theorem dX9_readFrom_64 : decode cX9_readFrom 64 = .ok (.iload_n 2, 1) := by decide +kernel
theorem dX9_readFrom_65 : decode cX9_readFrom 65 = .ok (.invokevirtual 44, 3) := by decide +kernel
theorem dX9_readFrom_68 : decode cX9_readFrom 68 = .ok (.istore 5, 2) := by decide +kernel
theorem dX9_readFrom_70 : decode cX9_readFrom 70 = .ok (.iload 5, 2) := by decide +kernel
theorem dX9_readFrom_72 : decode cX9_readFrom 72 = .ok (.ifCond .ne 5, 3) := by decide +kernel
theorem dX9_readFrom_75 : decode cX9_readFrom 75 = .ok (.iconst 0, 1) := by decide +kernel
theorem dX9_readFrom_76 : decode cX9_readFrom 76 = .ok (.ireturn, 1) := by decide +kernel
theorem dX9_readFrom_77 : decode cX9_readFrom 77 = .ok (.iinc 3 1, 3) := by decide +kernel
theorem dX9_readFrom_80 : decode cX9_readFrom 80 = .ok (.goto (-68), 3) := by decide +kernel
theorem dX9_readFrom_83 : decode cX9_readFrom 83 = .ok (.iconst 0, 1) := by decide +kernel
theorem dX9_readFrom_84 : decode cX9_readFrom 84 = .ok (.ireturn, 1) := by decide +kernel
theorem dX9_readClose_0 : decode cX9_readClose 0 = .ok (.aload_n 0, 1) := by decide +kernel
theorem dX9_readClose_1 : decode cX9_readClose 1 = .ok (.dup, 1) := by decide +kernel
theorem dX9_readClose_2 : decode cX9_readClose 2 = .ok (.getfield 31, 3) := by decide +kernel
theorem dX9_readClose_5 : decode cX9_readClose 5 = .ok (.iconst 1, 1) := by decide +kernel
theorem dX9_readClose_6 : decode cX9_readClose 6 = .ok (.isub, 1) := by decide +kernel
theorem dX9_readClose_7 : decode cX9_readClose 7 = .ok (.putfield 31, 3) := by decide +kernel
theorem dX9_readClose_10 : decode cX9_readClose 10 = .ok (.aload_n 0, 1) := by decide +kernel
theorem dX9_readClose_11 : decode cX9_readClose 11 = .ok (.getfield 21, 3) := by decide +kernel
theorem dX9_readClose_14 : decode cX9_readClose 14 = .ok (.aload_n 0, 1) := by decide +kernel
theorem dX9_readClose_15 : decode cX9_readClose 15 = .ok (.getfield 31, 3) := by decide +kernel
theorem dX9_readClose_18 : decode cX9_readClose 18 = .ok (.invokestatic 48, 3) := by decide +kernel
theorem dX9_readClose_21 : decode cX9_readClose 21 = .ok (.istore_n 2, 1) := by decide +kernel
theorem dX9_readClose_22 : decode cX9_readClose 22 = .ok (.aload_n 0, 1) := by decide +kernel
theorem dX9_readClose_23 : decode cX9_readClose 23 = .ok (.getfield 18, 3) := by decide +kernel
theorem dX9_readClose_26 : decode cX9_readClose 26 = .ok (.iload_n 2, 1) := by decide +kernel
theorem dX9_readClose_27 : decode cX9_readClose 27 = .ok (.aload_n 0, 1) := by decide +kernel
theorem dX9_readClose_28 : decode cX9_readClose 28 = .ok (.getfield 27, 3) := by decide +kernel
theorem dX9_readClose_31 : decode cX9_readClose 31 = .ok (.invokestatic 52, 3) := by decide +kernel
theorem dX9_readClose_34 : decode cX9_readClose 34 = .ok (.aload_n 0, 1) := by decide +kernel
theorem dX9_readClose_35 : decode cX9_readClose 35 = .ok (.bipush 9, 2) := by decide +kernel
theorem dX9_readClose_37 : decode cX9_readClose 37 = .ok (.iconst 0, 1) := by decide +kernel
theorem dX9_readClose_38 : decode cX9_readClose 38 = .ok (.iload_n 2, 1) := by decide +kernel
theorem dX9_readClose_39 : decode cX9_readClose 39 = .ok (.invokevirtual 56, 3) := by decide +kernel
theorem dX9_readClose_42 : decode cX9_readClose 42 = .ok (.aload_n 1, 1) := by decide +kernel
theorem dX9_readClose_43 : decode cX9_readClose 43 = .ok (.bipush 93, 2) := by decide +kernel
theorem dX9_readClose_45 : decode cX9_readClose 45 = .ok (.invokevirtual 60, 3) := by decide +kernel
theorem dX9_readClose_48 : decode cX9_readClose 48 = .ok (.ifCond .eq 16, 3) := by decide +kernel
theorem dX9_readClose_51 : decode cX9_readClose 51 = .ok (.aload_n 1, 1) := by decide +kernel
theorem dX9_readClose_52 : decode cX9_readClose 52 = .ok (.bipush 59, 2) := by decide +kernel
theorem dX9_readClose_54 : decode cX9_readClose 54 = .ok (.invokevirtual 60, 3) := by decide +kernel
theorem dX9_readClose_57 : decode cX9_readClose 57 = .ok (.ifCond .eq 7, 3) := by decide +kernel
theorem dX9_readClose_60 : decode cX9_readClose 60 = .ok (.iconst 1, 1) := by decide +kernel
theorem dX9_readClose_61 : decode cX9_readClose 61 = .ok (.goto 4, 3) := by decide +kernel
theorem dX9_readClose_64 : decode cX9_readClose 64 = .ok (.iconst 0, 1) := by decide +kernel
theorem dX9_readClose_65 : decode cX9_readClose 65 = .ok (.ireturn, 1) := by decide +kernel
theorem dX9_readStep_0 : decode cX9_readStep 0 = .ok (.aload_n 1, 1) := by decide +kernel
theorem dX9_readStep_1 : decode cX9_readStep 1 = .ok (.ldc 64, 2) := by decide +kernel
theorem dX9_readStep_3 : decode cX9_readStep 3 = .ok (.invokevirtual 66, 3) := by decide +kernel
theorem dX9_readStep_6 : decode cX9_readStep 6 = .ok (.istore_n 3, 1) := by decide +kernel
theorem dX9_readStep_7 : decode cX9_readStep 7 = .ok (.iload_n 3, 1) := by decide +kernel
theorem dX9_readStep_8 : decode cX9_readStep 8 = .ok (.ifCond .ge 5, 3) := by decide +kernel
theorem dX9_readStep_11 : decode cX9_readStep 11 = .ok (.iconst 0, 1) := by decide +kernel
theorem dX9_readStep_12 : decode cX9_readStep 12 = .ok (.ireturn, 1) := by decide +kernel
theorem dX9_readStep_13 : decode cX9_readStep 13 = .ok (.iload_n 3, 1) := by decide +kernel
theorem dX9_readStep_14 : decode cX9_readStep 14 = .ok (.bipush 8, 2) := by decide +kernel
theorem dX9_readStep_16 : decode cX9_readStep 16 = .ok (.if_icmp .ne 9, 3) := by decide +kernel
theorem dX9_readStep_19 : decode cX9_readStep 19 = .ok (.aload_n 0, 1) := by decide +kernel
theorem dX9_readStep_20 : decode cX9_readStep 20 = .ok (.aload_n 1, 1) := by decide +kernel
theorem dX9_readStep_21 : decode cX9_readStep 21 = .ok (.invokevirtual 70, 3) := by decide +kernel
theorem dX9_readStep_24 : decode cX9_readStep 24 = .ok (.ireturn, 1) := by decide +kernel
theorem dX9_readStep_25 : decode cX9_readStep 25 = .ok (.iconst 0, 1) := by decide +kernel
theorem dX9_readStep_26 : decode cX9_readStep 26 = .ok (.istore 4, 2) := by decide +kernel
theorem dX9_readStep_28 : decode cX9_readStep 28 = .ok (.iconst 0, 1) := by decide +kernel
theorem dX9_readStep_29 : decode cX9_readStep 29 = .ok (.istore 5, 2) := by decide +kernel
theorem dX9_readStep_31 : decode cX9_readStep 31 = .ok (.iload_n 3, 1) := by decide +kernel
theorem dX9_readStep_32 : decode cX9_readStep 32 = .ok (.iconst 2, 1) := by decide +kernel
theorem dX9_readStep_33 : decode cX9_readStep 33 = .ok (.if_icmp .eq 39, 3) := by decide +kernel
theorem dX9_readStep_36 : decode cX9_readStep 36 = .ok (.iload_n 3, 1) := by decide +kernel
theorem dX9_readStep_37 : decode cX9_readStep 37 = .ok (.bipush 7, 2) := by decide +kernel
theorem dX9_readStep_39 : decode cX9_readStep 39 = .ok (.if_icmp .eq 33, 3) := by decide +kernel
theorem dX9_readStep_42 : decode cX9_readStep 42 = .ok (.aload_n 1, 1) := by decide +kernel
theorem dX9_readStep_43 : decode cX9_readStep 43 = .ok (.iconst 0, 1) := by decide +kernel
theorem dX9_readStep_44 : decode cX9_readStep 44 = .ok (.iload_n 3, 1) := by decide +kernel
theorem dX9_readStep_45 : decode cX9_readStep 45 = .ok (.bipush 6, 2) := by decide +kernel
theorem dX9_readStep_47 : decode cX9_readStep 47 = .ok (.if_icmp .ne 8, 3) := by decide +kernel
theorem dX9_readStep_50 : decode cX9_readStep 50 = .ok (.bipush 99, 2) := by decide +kernel
theorem dX9_readStep_52 : decode cX9_readStep 52 = .ok (.goto 6, 3) := by decide +kernel
theorem dX9_readStep_55 : decode cX9_readStep 55 = .ok (.iload_n 2, 1) := by decide +kernel
theorem dX9_readStep_56 : decode cX9_readStep 56 = .ok (.iconst 1, 1) := by decide +kernel
theorem dX9_readStep_57 : decode cX9_readStep 57 = .ok (.isub, 1) := by decide +kernel
theorem dX9_readStep_58 : decode cX9_readStep 58 = .ok (.invokevirtual 73, 3) := by decide +kernel
theorem dX9_readStep_61 : decode cX9_readStep 61 = .ok (.ifCond .ne 5, 3) := by decide +kernel
theorem dX9_readStep_64 : decode cX9_readStep 64 = .ok (.iconst 0, 1) := by decide +kernel
theorem dX9_readStep_65 : decode cX9_readStep 65 = .ok (.ireturn, 1) := by decide +kernel
theorem dX9_readStep_66 : decode cX9_readStep 66 = .ok (.aload_n 1, 1) := by decide +kernel
theorem dX9_readStep_67 : decode cX9_readStep 67 = .ok (.getfield 77, 3) := by decide +kernel
theorem dX9_readStep_70 : decode cX9_readStep 70 = .ok (.istore 4, 2) := by decide +kernel
theorem dX9_readStep_72 : decode cX9_readStep 72 = .ok (.iload_n 3, 1) := by decide +kernel
theorem dX9_readStep_73 : decode cX9_readStep 73 = .ok (.iconst 3, 1) := by decide +kernel
theorem dX9_readStep_74 : decode cX9_readStep 74 = .ok (.if_icmp .ne 21, 3) := by decide +kernel
theorem dX9_readStep_77 : decode cX9_readStep 77 = .ok (.aload_n 1, 1) := by decide +kernel
theorem dX9_readStep_78 : decode cX9_readStep 78 = .ok (.iconst 0, 1) := by decide +kernel
theorem dX9_readStep_79 : decode cX9_readStep 79 = .ok (.bipush 9, 2) := by decide +kernel
theorem dX9_readStep_81 : decode cX9_readStep 81 = .ok (.invokevirtual 73, 3) := by decide +kernel
theorem dX9_readStep_84 : decode cX9_readStep 84 = .ok (.ifCond .ne 5, 3) := by decide +kernel
theorem dX9_readStep_87 : decode cX9_readStep 87 = .ok (.iconst 0, 1) := by decide +kernel
theorem dX9_readStep_88 : decode cX9_readStep 88 = .ok (.ireturn, 1) := by decide +kernel
theorem dX9_readStep_89 : decode cX9_readStep 89 = .ok (.aload_n 1, 1) := by decide +kernel
theorem dX9_readStep_90 : decode cX9_readStep 90 = .ok (.getfield 77, 3) := by decide +kernel
theorem dX9_readStep_93 : decode cX9_readStep 93 = .ok (.istore 5, 2) := by decide +kernel
theorem dX9_readStep_95 : decode cX9_readStep 95 = .ok (.aload_n 0, 1) := by decide +kernel
theorem dX9_readStep_96 : decode cX9_readStep 96 = .ok (.iload_n 3, 1) := by decide +kernel
theorem dX9_readStep_97 : decode cX9_readStep 97 = .ok (.iload 4, 2) := by decide +kernel
theorem dX9_readStep_99 : decode cX9_readStep 99 = .ok (.iload 5, 2) := by decide +kernel
theorem dX9_readStep_101 : decode cX9_readStep 101 = .ok (.invokevirtual 56, 3) := by decide +kernel
theorem dX9_readStep_104 : decode cX9_readStep 104 = .ok (.aload_n 1, 1) := by decide +kernel
theorem dX9_readStep_105 : decode cX9_readStep 105 = .ok (.bipush 59, 2) := by decide +kernel
theorem dX9_readStep_107 : decode cX9_readStep 107 = .ok (.invokevirtual 60, 3) := by decide +kernel
theorem dX9_readStep_110 : decode cX9_readStep 110 = .ok (.ireturn, 1) := by decide +kernel
theorem dX9_readAgain_0 : decode cX9_readAgain 0 = .ok (.aload_n 0, 1) := by decide +kernel
theorem dX9_readAgain_1 : decode cX9_readAgain 1 = .ok (.getfield 31, 3) := by decide +kernel
theorem dX9_readAgain_4 : decode cX9_readAgain 4 = .ok (.bipush 6, 2) := by decide +kernel
theorem dX9_readAgain_6 : decode cX9_readAgain 6 = .ok (.if_icmp .lt 8, 3) := by decide +kernel
theorem dX9_readAgain_9 : decode cX9_readAgain 9 = .ok (.aload_n 1, 1) := by decide +kernel
theorem dX9_readAgain_10 : decode cX9_readAgain 10 = .ok (.invokevirtual 80, 3) := by decide +kernel
theorem dX9_readAgain_13 : decode cX9_readAgain 13 = .ok (.ireturn, 1) := by decide +kernel
theorem dX9_readAgain_14 : decode cX9_readAgain 14 = .ok (.aload_n 1, 1) := by decide +kernel
theorem dX9_readAgain_15 : decode cX9_readAgain 15 = .ok (.iconst 0, 1) := by decide +kernel
theorem dX9_readAgain_16 : decode cX9_readAgain 16 = .ok (.bipush 30, 2) := by decide +kernel
theorem dX9_readAgain_18 : decode cX9_readAgain 18 = .ok (.invokevirtual 73, 3) := by decide +kernel
theorem dX9_readAgain_21 : decode cX9_readAgain 21 = .ok (.ifCond .ne 5, 3) := by decide +kernel
theorem dX9_readAgain_24 : decode cX9_readAgain 24 = .ok (.iconst 0, 1) := by decide +kernel
theorem dX9_readAgain_25 : decode cX9_readAgain 25 = .ok (.ireturn, 1) := by decide +kernel
theorem dX9_readAgain_26 : decode cX9_readAgain 26 = .ok (.aload_n 0, 1) := by decide +kernel
theorem dX9_readAgain_27 : decode cX9_readAgain 27 = .ok (.getfield 21, 3) := by decide +kernel
theorem dX9_readAgain_30 : decode cX9_readAgain 30 = .ok (.aload_n 0, 1) := by decide +kernel
theorem dX9_readAgain_31 : decode cX9_readAgain 31 = .ok (.getfield 31, 3) := by decide +kernel
theorem dX9_readAgain_34 : decode cX9_readAgain 34 = .ok (.aload_n 0, 1) := by decide +kernel
theorem dX9_readAgain_35 : decode cX9_readAgain 35 = .ok (.getfield 27, 3) := by decide +kernel
theorem dX9_readAgain_38 : decode cX9_readAgain 38 = .ok (.invokestatic 52, 3) := by decide +kernel
theorem dX9_readAgain_41 : decode cX9_readAgain 41 = .ok (.aload_n 0, 1) := by decide +kernel
theorem dX9_readAgain_42 : decode cX9_readAgain 42 = .ok (.dup, 1) := by decide +kernel
theorem dX9_readAgain_43 : decode cX9_readAgain 43 = .ok (.getfield 31, 3) := by decide +kernel
theorem dX9_readAgain_46 : decode cX9_readAgain 46 = .ok (.iconst 1, 1) := by decide +kernel
theorem dX9_readAgain_47 : decode cX9_readAgain 47 = .ok (.iadd, 1) := by decide +kernel
theorem dX9_readAgain_48 : decode cX9_readAgain 48 = .ok (.putfield 31, 3) := by decide +kernel
theorem dX9_readAgain_51 : decode cX9_readAgain 51 = .ok (.aload_n 0, 1) := by decide +kernel
theorem dX9_readAgain_52 : decode cX9_readAgain 52 = .ok (.bipush 8, 2) := by decide +kernel
theorem dX9_readAgain_54 : decode cX9_readAgain 54 = .ok (.aload_n 1, 1) := by decide +kernel
theorem dX9_readAgain_55 : decode cX9_readAgain 55 = .ok (.getfield 77, 3) := by decide +kernel
theorem dX9_readAgain_58 : decode cX9_readAgain 58 = .ok (.iconst 0, 1) := by decide +kernel
theorem dX9_readAgain_59 : decode cX9_readAgain 59 = .ok (.invokevirtual 56, 3) := by decide +kernel
theorem dX9_readAgain_62 : decode cX9_readAgain 62 = .ok (.aload_n 1, 1) := by decide +kernel
theorem dX9_readAgain_63 : decode cX9_readAgain 63 = .ok (.bipush 91, 2) := by decide +kernel
theorem dX9_readAgain_65 : decode cX9_readAgain 65 = .ok (.invokevirtual 60, 3) := by decide +kernel
theorem dX9_readAgain_68 : decode cX9_readAgain 68 = .ok (.ireturn, 1) := by decide +kernel
theorem dX9_add_0 : decode cX9_add 0 = .ok (.aload_n 0, 1) := by decide +kernel
theorem dX9_add_1 : decode cX9_add 1 = .ok (.getfield 11, 3) := by decide +kernel
theorem dX9_add_4 : decode cX9_add 4 = .ok (.aload_n 0, 1) := by decide +kernel
theorem dX9_add_5 : decode cX9_add 5 = .ok (.getfield 27, 3) := by decide +kernel
theorem dX9_add_8 : decode cX9_add 8 = .ok (.iload_n 1, 1) := by decide +kernel
theorem dX9_add_9 : decode cX9_add 9 = .ok (.invokestatic 52, 3) := by decide +kernel
theorem dX9_add_12 : decode cX9_add 12 = .ok (.aload_n 0, 1) := by decide +kernel
theorem dX9_add_13 : decode cX9_add 13 = .ok (.getfield 15, 3) := by decide +kernel
theorem dX9_add_16 : decode cX9_add 16 = .ok (.aload_n 0, 1) := by decide +kernel
theorem dX9_add_17 : decode cX9_add 17 = .ok (.getfield 27, 3) := by decide +kernel
theorem dX9_add_20 : decode cX9_add 20 = .ok (.iload_n 2, 1) := by decide +kernel
theorem dX9_add_21 : decode cX9_add 21 = .ok (.invokestatic 52, 3) := by decide +kernel
theorem dX9_add_24 : decode cX9_add 24 = .ok (.aload_n 0, 1) := by decide +kernel
theorem dX9_add_25 : decode cX9_add 25 = .ok (.getfield 18, 3) := by decide +kernel
theorem dX9_add_28 : decode cX9_add 28 = .ok (.aload_n 0, 1) := by decide +kernel
theorem dX9_add_29 : decode cX9_add 29 = .ok (.getfield 27, 3) := by decide +kernel
theorem dX9_add_32 : decode cX9_add 32 = .ok (.iload_n 3, 1) := by decide +kernel
theorem dX9_add_33 : decode cX9_add 33 = .ok (.invokestatic 52, 3) := by decide +kernel
theorem dX9_add_36 : decode cX9_add 36 = .ok (.aload_n 0, 1) := by decide +kernel
theorem dX9_add_37 : decode cX9_add 37 = .ok (.bipush 75, 2) := by decide +kernel
theorem dX9_add_39 : decode cX9_add 39 = .ok (.aload_n 0, 1) := by decide +kernel
theorem dX9_add_40 : decode cX9_add 40 = .ok (.getfield 27, 3) := by decide +kernel
theorem dX9_add_43 : decode cX9_add 43 = .ok (.iconst 1, 1) := by decide +kernel
theorem dX9_add_44 : decode cX9_add 44 = .ok (.iadd, 1) := by decide +kernel
theorem dX9_add_45 : decode cX9_add 45 = .ok (.invokestatic 84, 3) := by decide +kernel
theorem dX9_add_48 : decode cX9_add 48 = .ok (.putfield 27, 3) := by decide +kernel
theorem dX9_add_51 : decode cX9_add 51 = .ok (.return_, 1) := by decide +kernel
theorem dX9_doneOn_0 : decode cX9_doneOn 0 = .ok (.iconst 0, 1) := by decide +kernel
theorem dX9_doneOn_1 : decode cX9_doneOn 1 = .ok (.istore 4, 2) := by decide +kernel
theorem dX9_doneOn_3 : decode cX9_doneOn 3 = .ok (.iconst 0, 1) := by decide +kernel
theorem dX9_doneOn_4 : decode cX9_doneOn 4 = .ok (.istore 5, 2) := by decide +kernel
theorem dX9_doneOn_6 : decode cX9_doneOn 6 = .ok (.iconst 0, 1) := by decide +kernel
theorem dX9_doneOn_7 : decode cX9_doneOn 7 = .ok (.istore 6, 2) := by decide +kernel
theorem dX9_doneOn_9 : decode cX9_doneOn 9 = .ok (.aload_n 0, 1) := by decide +kernel
theorem dX9_doneOn_10 : decode cX9_doneOn 10 = .ok (.iconst 0, 1) := by decide +kernel
theorem dX9_doneOn_11 : decode cX9_doneOn 11 = .ok (.putfield 90, 3) := by decide +kernel
theorem dX9_doneOn_14 : decode cX9_doneOn 14 = .ok (.aload_n 0, 1) := by decide +kernel
theorem dX9_doneOn_15 : decode cX9_doneOn 15 = .ok (.iconst 0, 1) := by decide +kernel
theorem dX9_doneOn_16 : decode cX9_doneOn 16 = .ok (.putfield 31, 3) := by decide +kernel
theorem dX9_doneOn_19 : decode cX9_doneOn 19 = .ok (.iconst 0, 1) := by decide +kernel
theorem dX9_doneOn_20 : decode cX9_doneOn 20 = .ok (.istore 7, 2) := by decide +kernel
theorem dX9_doneOn_22 : decode cX9_doneOn 22 = .ok (.iload 7, 2) := by decide +kernel
theorem dX9_doneOn_24 : decode cX9_doneOn 24 = .ok (.sipush 6200, 3) := by decide +kernel
theorem dX9_doneOn_27 : decode cX9_doneOn 27 = .ok (.if_icmp .ge 107, 3) := by decide +kernel
theorem dX9_doneOn_30 : decode cX9_doneOn 30 = .ok (.iload 6, 2) := by decide +kernel
theorem dX9_doneOn_32 : decode cX9_doneOn 32 = .ok (.aload_n 0, 1) := by decide +kernel
theorem dX9_doneOn_33 : decode cX9_doneOn 33 = .ok (.getfield 27, 3) := by decide +kernel
theorem dX9_doneOn_36 : decode cX9_doneOn 36 = .ok (.if_icmp .ge 98, 3) := by decide +kernel
theorem dX9_doneOn_39 : decode cX9_doneOn 39 = .ok (.iload 5, 2) := by decide +kernel
theorem dX9_doneOn_41 : decode cX9_doneOn 41 = .ok (.sipush 200, 3) := by decide +kernel
theorem dX9_doneOn_44 : decode cX9_doneOn 44 = .ok (.if_icmp .ge 90, 3) := by decide +kernel
theorem dX9_doneOn_47 : decode cX9_doneOn 47 = .ok (.aload_n 0, 1) := by decide +kernel
theorem dX9_doneOn_48 : decode cX9_doneOn 48 = .ok (.getfield 11, 3) := by decide +kernel
theorem dX9_doneOn_51 : decode cX9_doneOn 51 = .ok (.iload 6, 2) := by decide +kernel
theorem dX9_doneOn_53 : decode cX9_doneOn 53 = .ok (.invokestatic 48, 3) := by decide +kernel
theorem dX9_doneOn_56 : decode cX9_doneOn 56 = .ok (.istore 8, 2) := by decide +kernel
theorem dX9_doneOn_58 : decode cX9_doneOn 58 = .ok (.iload 8, 2) := by decide +kernel
theorem dX9_doneOn_60 : decode cX9_doneOn 60 = .ok (.bipush 9, 2) := by decide +kernel
theorem dX9_doneOn_62 : decode cX9_doneOn 62 = .ok (.if_icmp .ne 14, 3) := by decide +kernel
theorem dX9_doneOn_65 : decode cX9_doneOn 65 = .ok (.aload_n 0, 1) := by decide +kernel
theorem dX9_doneOn_66 : decode cX9_doneOn 66 = .ok (.iload 6, 2) := by decide +kernel
theorem dX9_doneOn_68 : decode cX9_doneOn 68 = .ok (.invokevirtual 93, 3) := by decide +kernel
theorem dX9_doneOn_71 : decode cX9_doneOn 71 = .ok (.istore 6, 2) := by decide +kernel
theorem dX9_doneOn_73 : decode cX9_doneOn 73 = .ok (.goto 55, 3) := by decide +kernel
theorem dX9_doneOn_76 : decode cX9_doneOn 76 = .ok (.iinc 5 1, 3) := by decide +kernel
theorem dX9_doneOn_79 : decode cX9_doneOn 79 = .ok (.iload 8, 2) := by decide +kernel
theorem dX9_doneOn_81 : decode cX9_doneOn 81 = .ok (.bipush 8, 2) := by decide +kernel
theorem dX9_doneOn_83 : decode cX9_doneOn 83 = .ok (.if_icmp .ne 14, 3) := by decide +kernel
theorem dX9_doneOn_86 : decode cX9_doneOn 86 = .ok (.aload_n 0, 1) := by decide +kernel
theorem dX9_doneOn_87 : decode cX9_doneOn 87 = .ok (.iload 6, 2) := by decide +kernel
theorem dX9_doneOn_89 : decode cX9_doneOn 89 = .ok (.invokevirtual 97, 3) := by decide +kernel
theorem dX9_doneOn_92 : decode cX9_doneOn 92 = .ok (.istore 6, 2) := by decide +kernel
theorem dX9_doneOn_94 : decode cX9_doneOn 94 = .ok (.goto 34, 3) := by decide +kernel
theorem dX9_doneOn_97 : decode cX9_doneOn 97 = .ok (.aload_n 0, 1) := by decide +kernel
theorem dX9_doneOn_98 : decode cX9_doneOn 98 = .ok (.iload 6, 2) := by decide +kernel
theorem dX9_doneOn_100 : decode cX9_doneOn 100 = .ok (.aload_n 1, 1) := by decide +kernel
theorem dX9_doneOn_101 : decode cX9_doneOn 101 = .ok (.aload_n 2, 1) := by decide +kernel
theorem dX9_doneOn_102 : decode cX9_doneOn 102 = .ok (.aload_n 3, 1) := by decide +kernel
theorem dX9_doneOn_103 : decode cX9_doneOn 103 = .ok (.invokevirtual 100, 3) := by decide +kernel
theorem dX9_doneOn_106 : decode cX9_doneOn 106 = .ok (.ifCond .eq 9, 3) := by decide +kernel
theorem dX9_doneOn_109 : decode cX9_doneOn 109 = .ok (.iinc 4 1, 3) := by decide +kernel
theorem dX9_doneOn_112 : decode cX9_doneOn 112 = .ok (.goto 13, 3) := by decide +kernel
theorem dX9_doneOn_115 : decode cX9_doneOn 115 = .ok (.aload_n 0, 1) := by decide +kernel
theorem dX9_doneOn_116 : decode cX9_doneOn 116 = .ok (.dup, 1) := by decide +kernel
theorem dX9_doneOn_117 : decode cX9_doneOn 117 = .ok (.getfield 90, 3) := by decide +kernel
theorem dX9_doneOn_120 : decode cX9_doneOn 120 = .ok (.iconst 1, 1) := by decide +kernel
theorem dX9_doneOn_121 : decode cX9_doneOn 121 = .ok (.iadd, 1) := by decide +kernel
theorem dX9_doneOn_122 : decode cX9_doneOn 122 = .ok (.putfield 90, 3) := by decide +kernel
theorem dX9_doneOn_125 : decode cX9_doneOn 125 = .ok (.iinc 6 1, 3) := by decide +kernel
theorem dX9_doneOn_128 : decode cX9_doneOn 128 = .ok (.iinc 7 1, 3) := by decide +kernel
theorem dX9_doneOn_131 : decode cX9_doneOn 131 = .ok (.goto (-109), 3) := by decide +kernel
theorem dX9_doneOn_134 : decode cX9_doneOn 134 = .ok (.iload 4, 2) := by decide +kernel
theorem dX9_doneOn_136 : decode cX9_doneOn 136 = .ok (.ireturn, 1) := by decide +kernel
theorem dX9_behindAgain_0 : decode cX9_behindAgain 0 = .ok (.aload_n 0, 1) := by decide +kernel
theorem dX9_behindAgain_1 : decode cX9_behindAgain 1 = .ok (.getfield 15, 3) := by decide +kernel
theorem dX9_behindAgain_4 : decode cX9_behindAgain 4 = .ok (.iload_n 1, 1) := by decide +kernel
theorem dX9_behindAgain_5 : decode cX9_behindAgain 5 = .ok (.invokestatic 48, 3) := by decide +kernel
theorem dX9_behindAgain_8 : decode cX9_behindAgain 8 = .ok (.ifCond .ne 14, 3) := by decide +kernel
theorem dX9_behindAgain_11 : decode cX9_behindAgain 11 = .ok (.aload_n 0, 1) := by decide +kernel
theorem dX9_behindAgain_12 : decode cX9_behindAgain 12 = .ok (.getfield 18, 3) := by decide +kernel
theorem dX9_behindAgain_15 : decode cX9_behindAgain 15 = .ok (.iload_n 1, 1) := by decide +kernel
theorem dX9_behindAgain_16 : decode cX9_behindAgain 16 = .ok (.invokestatic 48, 3) := by decide +kernel
theorem dX9_behindAgain_19 : decode cX9_behindAgain 19 = .ok (.iconst 1, 1) := by decide +kernel
theorem dX9_behindAgain_20 : decode cX9_behindAgain 20 = .ok (.iadd, 1) := by decide +kernel
theorem dX9_behindAgain_21 : decode cX9_behindAgain 21 = .ok (.ireturn, 1) := by decide +kernel
theorem dX9_behindAgain_22 : decode cX9_behindAgain 22 = .ok (.aload_n 0, 1) := by decide +kernel
theorem dX9_behindAgain_23 : decode cX9_behindAgain 23 = .ok (.getfield 24, 3) := by decide +kernel
theorem dX9_behindAgain_26 : decode cX9_behindAgain 26 = .ok (.aload_n 0, 1) := by decide +kernel
theorem dX9_behindAgain_27 : decode cX9_behindAgain 27 = .ok (.getfield 31, 3) := by decide +kernel
theorem dX9_behindAgain_30 : decode cX9_behindAgain 30 = .ok (.aload_n 0, 1) := by decide +kernel
theorem dX9_behindAgain_31 : decode cX9_behindAgain 31 = .ok (.getfield 15, 3) := by decide +kernel
theorem dX9_behindAgain_34 : decode cX9_behindAgain 34 = .ok (.iload_n 1, 1) := by decide +kernel
theorem dX9_behindAgain_35 : decode cX9_behindAgain 35 = .ok (.invokestatic 48, 3) := by decide +kernel
theorem dX9_behindAgain_38 : decode cX9_behindAgain 38 = .ok (.invokestatic 52, 3) := by decide +kernel
theorem dX9_behindAgain_41 : decode cX9_behindAgain 41 = .ok (.aload_n 0, 1) := by decide +kernel
theorem dX9_behindAgain_42 : decode cX9_behindAgain 42 = .ok (.dup, 1) := by decide +kernel
theorem dX9_behindAgain_43 : decode cX9_behindAgain 43 = .ok (.getfield 31, 3) := by decide +kernel
theorem dX9_behindAgain_46 : decode cX9_behindAgain 46 = .ok (.iconst 1, 1) := by decide +kernel
theorem dX9_behindAgain_47 : decode cX9_behindAgain 47 = .ok (.iadd, 1) := by decide +kernel
theorem dX9_behindAgain_48 : decode cX9_behindAgain 48 = .ok (.putfield 31, 3) := by decide +kernel
theorem dX9_behindAgain_51 : decode cX9_behindAgain 51 = .ok (.iload_n 1, 1) := by decide +kernel
theorem dX9_behindAgain_52 : decode cX9_behindAgain 52 = .ok (.iconst 1, 1) := by decide +kernel
theorem dX9_behindAgain_53 : decode cX9_behindAgain 53 = .ok (.iadd, 1) := by decide +kernel
theorem dX9_behindAgain_54 : decode cX9_behindAgain 54 = .ok (.ireturn, 1) := by decide +kernel
theorem dX9_behindClose_0 : decode cX9_behindClose 0 = .ok (.aload_n 0, 1) := by decide +kernel
theorem dX9_behindClose_1 : decode cX9_behindClose 1 = .ok (.getfield 24, 3) := by decide +kernel
theorem dX9_behindClose_4 : decode cX9_behindClose 4 = .ok (.aload_n 0, 1) := by decide +kernel
theorem dX9_behindClose_5 : decode cX9_behindClose 5 = .ok (.getfield 31, 3) := by decide +kernel
theorem dX9_behindClose_8 : decode cX9_behindClose 8 = .ok (.iconst 1, 1) := by decide +kernel
theorem dX9_behindClose_9 : decode cX9_behindClose 9 = .ok (.isub, 1) := by decide +kernel
theorem dX9_behindClose_10 : decode cX9_behindClose 10 = .ok (.invokestatic 48, 3) := by decide +kernel
theorem dX9_behindClose_13 : decode cX9_behindClose 13 = .ok (.iconst 1, 1) := by decide +kernel
theorem dX9_behindClose_14 : decode cX9_behindClose 14 = .ok (.isub, 1) := by decide +kernel
theorem dX9_behindClose_15 : decode cX9_behindClose 15 = .ok (.istore_n 2, 1) := by decide +kernel
theorem dX9_behindClose_16 : decode cX9_behindClose 16 = .ok (.iload_n 2, 1) := by decide +kernel
theorem dX9_behindClose_17 : decode cX9_behindClose 17 = .ok (.ifCond .le 28, 3) := by decide +kernel
theorem dX9_behindClose_20 : decode cX9_behindClose 20 = .ok (.aload_n 0, 1) := by decide +kernel
theorem dX9_behindClose_21 : decode cX9_behindClose 21 = .ok (.getfield 24, 3) := by decide +kernel
theorem dX9_behindClose_24 : decode cX9_behindClose 24 = .ok (.aload_n 0, 1) := by decide +kernel
theorem dX9_behindClose_25 : decode cX9_behindClose 25 = .ok (.getfield 31, 3) := by decide +kernel
theorem dX9_behindClose_28 : decode cX9_behindClose 28 = .ok (.iconst 1, 1) := by decide +kernel
theorem dX9_behindClose_29 : decode cX9_behindClose 29 = .ok (.isub, 1) := by decide +kernel
theorem dX9_behindClose_30 : decode cX9_behindClose 30 = .ok (.iload_n 2, 1) := by decide +kernel
theorem dX9_behindClose_31 : decode cX9_behindClose 31 = .ok (.invokestatic 52, 3) := by decide +kernel
theorem dX9_behindClose_34 : decode cX9_behindClose 34 = .ok (.aload_n 0, 1) := by decide +kernel
theorem dX9_behindClose_35 : decode cX9_behindClose 35 = .ok (.getfield 18, 3) := by decide +kernel
theorem dX9_behindClose_38 : decode cX9_behindClose 38 = .ok (.iload_n 1, 1) := by decide +kernel
theorem dX9_behindClose_39 : decode cX9_behindClose 39 = .ok (.invokestatic 48, 3) := by decide +kernel
theorem dX9_behindClose_42 : decode cX9_behindClose 42 = .ok (.iconst 1, 1) := by decide +kernel
theorem dX9_behindClose_43 : decode cX9_behindClose 43 = .ok (.iadd, 1) := by decide +kernel
theorem dX9_behindClose_44 : decode cX9_behindClose 44 = .ok (.ireturn, 1) := by decide +kernel
theorem dX9_behindClose_45 : decode cX9_behindClose 45 = .ok (.aload_n 0, 1) := by decide +kernel
theorem dX9_behindClose_46 : decode cX9_behindClose 46 = .ok (.dup, 1) := by decide +kernel
theorem dX9_behindClose_47 : decode cX9_behindClose 47 = .ok (.getfield 31, 3) := by decide +kernel
theorem dX9_behindClose_50 : decode cX9_behindClose 50 = .ok (.iconst 1, 1) := by decide +kernel
theorem dX9_behindClose_51 : decode cX9_behindClose 51 = .ok (.isub, 1) := by decide +kernel
theorem dX9_behindClose_52 : decode cX9_behindClose 52 = .ok (.putfield 31, 3) := by decide +kernel
theorem dX9_behindClose_55 : decode cX9_behindClose 55 = .ok (.iload_n 1, 1) := by decide +kernel
theorem dX9_behindClose_56 : decode cX9_behindClose 56 = .ok (.iconst 1, 1) := by decide +kernel
theorem dX9_behindClose_57 : decode cX9_behindClose 57 = .ok (.iadd, 1) := by decide +kernel
theorem dX9_behindClose_58 : decode cX9_behindClose 58 = .ok (.ireturn, 1) := by decide +kernel
theorem dX9_isDone_0 : decode cX9_isDone 0 = .ok (.aload_n 0, 1) := by decide +kernel
theorem dX9_isDone_1 : decode cX9_isDone 1 = .ok (.getfield 15, 3) := by decide +kernel
theorem dX9_isDone_4 : decode cX9_isDone 4 = .ok (.iload_n 1, 1) := by decide +kernel
theorem dX9_isDone_5 : decode cX9_isDone 5 = .ok (.invokestatic 48, 3) := by decide +kernel
theorem dX9_isDone_8 : decode cX9_isDone 8 = .ok (.istore 5, 2) := by decide +kernel
theorem dX9_isDone_10 : decode cX9_isDone 10 = .ok (.aload_n 0, 1) := by decide +kernel
theorem dX9_isDone_11 : decode cX9_isDone 11 = .ok (.getfield 11, 3) := by decide +kernel
theorem dX9_isDone_14 : decode cX9_isDone 14 = .ok (.iload_n 1, 1) := by decide +kernel
theorem dX9_isDone_15 : decode cX9_isDone 15 = .ok (.invokestatic 48, 3) := by decide +kernel
theorem dX9_isDone_18 : decode cX9_isDone 18 = .ok (.tableswitch 98 0 6 #[42, 49, 57, 62, 77, 84, 91], 42) := by decide +kernel
theorem dX9_isDone_60 : decode cX9_isDone 60 = .ok (.aload_n 2, 1) := by decide +kernel
theorem dX9_isDone_61 : decode cX9_isDone 61 = .ok (.iload 5, 2) := by decide +kernel
theorem dX9_isDone_63 : decode cX9_isDone 63 = .ok (.invokevirtual 104, 3) := by decide +kernel
theorem dX9_isDone_66 : decode cX9_isDone 66 = .ok (.ireturn, 1) := by decide +kernel
theorem dX9_isDone_67 : decode cX9_isDone 67 = .ok (.aload_n 2, 1) := by decide +kernel
theorem dX9_isDone_68 : decode cX9_isDone 68 = .ok (.aload_n 3, 1) := by decide +kernel
theorem dX9_isDone_69 : decode cX9_isDone 69 = .ok (.iload 5, 2) := by decide +kernel
theorem dX9_isDone_71 : decode cX9_isDone 71 = .ok (.invokevirtual 110, 3) := by decide +kernel
theorem dX9_isDone_74 : decode cX9_isDone 74 = .ok (.ireturn, 1) := by decide +kernel
theorem dX9_isDone_75 : decode cX9_isDone 75 = .ok (.aload_n 2, 1) := by decide +kernel
theorem dX9_isDone_76 : decode cX9_isDone 76 = .ok (.invokevirtual 114, 3) := by decide +kernel
theorem dX9_isDone_79 : decode cX9_isDone 79 = .ok (.ireturn, 1) := by decide +kernel
theorem dX9_isDone_80 : decode cX9_isDone 80 = .ok (.aload_n 2, 1) := by decide +kernel
theorem dX9_isDone_81 : decode cX9_isDone 81 = .ok (.iload 5, 2) := by decide +kernel
theorem dX9_isDone_83 : decode cX9_isDone 83 = .ok (.aload_n 0, 1) := by decide +kernel
theorem dX9_isDone_84 : decode cX9_isDone 84 = .ok (.getfield 18, 3) := by decide +kernel
theorem dX9_isDone_87 : decode cX9_isDone 87 = .ok (.iload_n 1, 1) := by decide +kernel
theorem dX9_isDone_88 : decode cX9_isDone 88 = .ok (.invokestatic 48, 3) := by decide +kernel
theorem dX9_isDone_91 : decode cX9_isDone 91 = .ok (.invokevirtual 117, 3) := by decide +kernel
theorem dX9_isDone_94 : decode cX9_isDone 94 = .ok (.ireturn, 1) := by decide +kernel
theorem dX9_isDone_95 : decode cX9_isDone 95 = .ok (.aload_n 2, 1) := by decide +kernel
theorem dX9_isDone_96 : decode cX9_isDone 96 = .ok (.iload 5, 2) := by decide +kernel
theorem dX9_isDone_98 : decode cX9_isDone 98 = .ok (.invokevirtual 120, 3) := by decide +kernel
theorem dX9_isDone_101 : decode cX9_isDone 101 = .ok (.ireturn, 1) := by decide +kernel
theorem dX9_isDone_102 : decode cX9_isDone 102 = .ok (.aload_n 2, 1) := by decide +kernel
theorem dX9_isDone_103 : decode cX9_isDone 103 = .ok (.iload 5, 2) := by decide +kernel
theorem dX9_isDone_105 : decode cX9_isDone 105 = .ok (.invokevirtual 123, 3) := by decide +kernel
theorem dX9_isDone_108 : decode cX9_isDone 108 = .ok (.ireturn, 1) := by decide +kernel
theorem dX9_isDone_109 : decode cX9_isDone 109 = .ok (.aload_n 2, 1) := by decide +kernel
theorem dX9_isDone_110 : decode cX9_isDone 110 = .ok (.iload 5, 2) := by decide +kernel
theorem dX9_isDone_112 : decode cX9_isDone 112 = .ok (.invokevirtual 126, 3) := by decide +kernel
theorem dX9_isDone_115 : decode cX9_isDone 115 = .ok (.ireturn, 1) := by decide +kernel
theorem dX9_isDone_116 : decode cX9_isDone 116 = .ok (.aload_n 2, 1) := by decide +kernel
theorem dX9_isDone_117 : decode cX9_isDone 117 = .ok (.getfield 129, 3) := by decide +kernel
theorem dX9_isDone_120 : decode cX9_isDone 120 = .ok (.sipush 500, 3) := by decide +kernel
theorem dX9_isDone_123 : decode cX9_isDone 123 = .ok (.if_icmp .lt 5, 3) := by decide +kernel
theorem dX9_isDone_126 : decode cX9_isDone 126 = .ok (.iconst 0, 1) := by decide +kernel
theorem dX9_isDone_127 : decode cX9_isDone 127 = .ok (.ireturn, 1) := by decide +kernel
theorem dX9_isDone_128 : decode cX9_isDone 128 = .ok (.aload_n 2, 1) := by decide +kernel
theorem dX9_isDone_129 : decode cX9_isDone 129 = .ok (.aload 4, 2) := by decide +kernel
theorem dX9_isDone_131 : decode cX9_isDone 131 = .ok (.aload_n 2, 1) := by decide +kernel
theorem dX9_isDone_132 : decode cX9_isDone 132 = .ok (.invokevirtual 132, 3) := by decide +kernel
theorem dX9_isDone_135 : decode cX9_isDone 135 = .ok (.invokevirtual 138, 3) := by decide +kernel
theorem dX9_isDone_138 : decode cX9_isDone 138 = .ok (.pop, 1) := by decide +kernel
theorem dX9_isDone_139 : decode cX9_isDone 139 = .ok (.iconst 1, 1) := by decide +kernel
theorem dX9_isDone_140 : decode cX9_isDone 140 = .ok (.ireturn, 1) := by decide +kernel
theorem dX10_init_0 : decode cX10_init 0 = .ok (.aload_n 0, 1) := by decide +kernel
theorem dX10_init_1 : decode cX10_init 1 = .ok (.invokespecial 1, 3) := by decide +kernel
theorem dX10_init_4 : decode cX10_init 4 = .ok (.aload_n 0, 1) := by decide +kernel
theorem dX10_init_5 : decode cX10_init 5 = .ok (.new 7, 3) := by decide +kernel
theorem dX10_init_8 : decode cX10_init 8 = .ok (.dup, 1) := by decide +kernel
theorem dX10_init_9 : decode cX10_init 9 = .ok (.invokespecial 9, 3) := by decide +kernel
theorem dX10_init_12 : decode cX10_init 12 = .ok (.putfield 10, 3) := by decide +kernel
theorem dX10_init_15 : decode cX10_init 15 = .ok (.aload_n 0, 1) := by decide +kernel
theorem dX10_init_16 : decode cX10_init 16 = .ok (.aload_n 1, 1) := by decide +kernel
theorem dX10_init_17 : decode cX10_init 17 = .ok (.putfield 16, 3) := by decide +kernel
theorem dX10_init_20 : decode cX10_init 20 = .ok (.aload_n 0, 1) := by decide +kernel
theorem dX10_init_21 : decode cX10_init 21 = .ok (.aload_n 2, 1) := by decide +kernel
theorem dX10_init_22 : decode cX10_init 22 = .ok (.putfield 20, 3) := by decide +kernel
theorem dX10_init_25 : decode cX10_init 25 = .ok (.return_, 1) := by decide +kernel
theorem dX10_outAfter_0 : decode cX10_outAfter 0 = .ok (.aload_n 0, 1) := by decide +kernel
theorem dX10_outAfter_1 : decode cX10_outAfter 1 = .ok (.getfield 10, 3) := by decide +kernel
theorem dX10_outAfter_4 : decode cX10_outAfter 4 = .ok (.aload_n 1, 1) := by decide +kernel
theorem dX10_outAfter_5 : decode cX10_outAfter 5 = .ok (.invokevirtual 24, 3) := by decide +kernel
theorem dX10_outAfter_8 : decode cX10_outAfter 8 = .ok (.aload_n 0, 1) := by decide +kernel
theorem dX10_outAfter_9 : decode cX10_outAfter 9 = .ok (.getfield 20, 3) := by decide +kernel
theorem dX10_outAfter_12 : decode cX10_outAfter 12 = .ok (.aload_n 0, 1) := by decide +kernel
theorem dX10_outAfter_13 : decode cX10_outAfter 13 = .ok (.getfield 10, 3) := by decide +kernel
theorem dX10_outAfter_16 : decode cX10_outAfter 16 = .ok (.invokevirtual 28, 3) := by decide +kernel
theorem dX10_outAfter_19 : decode cX10_outAfter 19 = .ok (.istore_n 3, 1) := by decide +kernel
theorem dX10_outAfter_20 : decode cX10_outAfter 20 = .ok (.iconst 0, 1) := by decide +kernel
theorem dX10_outAfter_21 : decode cX10_outAfter 21 = .ok (.istore 4, 2) := by decide +kernel
theorem dX10_outAfter_23 : decode cX10_outAfter 23 = .ok (.iload 4, 2) := by decide +kernel
theorem dX10_outAfter_25 : decode cX10_outAfter 25 = .ok (.iload_n 2, 1) := by decide +kernel
theorem dX10_outAfter_26 : decode cX10_outAfter 26 = .ok (.if_icmp .ge 18, 3) := by decide +kernel
theorem dX10_outAfter_29 : decode cX10_outAfter 29 = .ok (.aload_n 0, 1) := by decide +kernel
theorem dX10_outAfter_30 : decode cX10_outAfter 30 = .ok (.getfield 10, 3) := by decide +kernel
theorem dX10_outAfter_33 : decode cX10_outAfter 33 = .ok (.iload_n 3, 1) := by decide +kernel
theorem dX10_outAfter_34 : decode cX10_outAfter 34 = .ok (.invokevirtual 34, 3) := by decide +kernel
theorem dX10_outAfter_37 : decode cX10_outAfter 37 = .ok (.pop, 1) := by decide +kernel
theorem dX10_outAfter_38 : decode cX10_outAfter 38 = .ok (.iinc 4 1, 3) := by decide +kernel
theorem dX10_outAfter_41 : decode cX10_outAfter 41 = .ok (.goto (-18), 3) := by decide +kernel
theorem dX10_outAfter_44 : decode cX10_outAfter 44 = .ok (.aload_n 0, 1) := by decide +kernel
theorem dX10_outAfter_45 : decode cX10_outAfter 45 = .ok (.getfield 10, 3) := by decide +kernel
theorem dX10_outAfter_48 : decode cX10_outAfter 48 = .ok (.invokevirtual 38, 3) := by decide +kernel
theorem dX10_outAfter_51 : decode cX10_outAfter 51 = .ok (.ireturn, 1) := by decide +kernel
theorem dX10_live_0 : decode cX10_live 0 = .ok (.aload_n 0, 1) := by decide +kernel
theorem dX10_live_1 : decode cX10_live 1 = .ok (.getfield 10, 3) := by decide +kernel
theorem dX10_live_4 : decode cX10_live 4 = .ok (.aload_n 1, 1) := by decide +kernel
theorem dX10_live_5 : decode cX10_live 5 = .ok (.invokevirtual 24, 3) := by decide +kernel
theorem dX10_live_8 : decode cX10_live 8 = .ok (.aload_n 0, 1) := by decide +kernel
theorem dX10_live_9 : decode cX10_live 9 = .ok (.iload_n 2, 1) := by decide +kernel
theorem dX10_live_10 : decode cX10_live 10 = .ok (.putfield 42, 3) := by decide +kernel
theorem dX10_live_13 : decode cX10_live 13 = .ok (.aload_n 0, 1) := by decide +kernel
theorem dX10_live_14 : decode cX10_live 14 = .ok (.iconst 0, 1) := by decide +kernel
theorem dX10_live_15 : decode cX10_live 15 = .ok (.putfield 46, 3) := by decide +kernel
theorem dX10_live_18 : decode cX10_live 18 = .ok (.iconst 0, 1) := by decide +kernel
theorem dX10_live_19 : decode cX10_live 19 = .ok (.istore 5, 2) := by decide +kernel
theorem dX10_live_21 : decode cX10_live 21 = .ok (.iload 5, 2) := by decide +kernel
theorem dX10_live_23 : decode cX10_live 23 = .ok (.iload_n 3, 1) := by decide +kernel
theorem dX10_live_24 : decode cX10_live 24 = .ok (.if_icmp .ge 52, 3) := by decide +kernel
theorem dX10_live_27 : decode cX10_live 27 = .ok (.aload_n 0, 1) := by decide +kernel
theorem dX10_live_28 : decode cX10_live 28 = .ok (.getfield 16, 3) := by decide +kernel
theorem dX10_live_31 : decode cX10_live 31 = .ok (.getfield 49, 3) := by decide +kernel
theorem dX10_live_34 : decode cX10_live 34 = .ok (.ifCond .le 9, 3) := by decide +kernel
theorem dX10_live_37 : decode cX10_live 37 = .ok (.aload_n 0, 1) := by decide +kernel
theorem dX10_live_38 : decode cX10_live 38 = .ok (.iload 4, 2) := by decide +kernel
theorem dX10_live_40 : decode cX10_live 40 = .ok (.invokevirtual 54, 3) := by decide +kernel
theorem dX10_live_43 : decode cX10_live 43 = .ok (.aload_n 0, 1) := by decide +kernel
theorem dX10_live_44 : decode cX10_live 44 = .ok (.dup, 1) := by decide +kernel
theorem dX10_live_45 : decode cX10_live 45 = .ok (.getfield 46, 3) := by decide +kernel
theorem dX10_live_48 : decode cX10_live 48 = .ok (.aload_n 0, 1) := by decide +kernel
theorem dX10_live_49 : decode cX10_live 49 = .ok (.getfield 10, 3) := by decide +kernel
theorem dX10_live_52 : decode cX10_live 52 = .ok (.aload_n 0, 1) := by decide +kernel
theorem dX10_live_53 : decode cX10_live 53 = .ok (.getfield 20, 3) := by decide +kernel
theorem dX10_live_56 : decode cX10_live 56 = .ok (.aload_n 0, 1) := by decide +kernel
theorem dX10_live_57 : decode cX10_live 57 = .ok (.getfield 10, 3) := by decide +kernel
theorem dX10_live_60 : decode cX10_live 60 = .ok (.invokevirtual 28, 3) := by decide +kernel
theorem dX10_live_63 : decode cX10_live 63 = .ok (.invokevirtual 34, 3) := by decide +kernel
theorem dX10_live_66 : decode cX10_live 66 = .ok (.iadd, 1) := by decide +kernel
theorem dX10_live_67 : decode cX10_live 67 = .ok (.putfield 46, 3) := by decide +kernel
theorem dX10_live_70 : decode cX10_live 70 = .ok (.iinc 5 1, 3) := by decide +kernel
theorem dX10_live_73 : decode cX10_live 73 = .ok (.goto (-52), 3) := by decide +kernel
theorem dX10_live_76 : decode cX10_live 76 = .ok (.return_, 1) := by decide +kernel
theorem dX10_doDrawn_0 : decode cX10_doDrawn 0 = .ok (.aload_n 0, 1) := by decide +kernel
theorem dX10_doDrawn_1 : decode cX10_doDrawn 1 = .ok (.aload_n 0, 1) := by decide +kernel
theorem dX10_doDrawn_2 : decode cX10_doDrawn 2 = .ok (.getfield 16, 3) := by decide +kernel
theorem dX10_doDrawn_5 : decode cX10_doDrawn 5 = .ok (.getfield 49, 3) := by decide +kernel
theorem dX10_doDrawn_8 : decode cX10_doDrawn 8 = .ok (.invokevirtual 58, 3) := by decide +kernel
theorem dX10_doDrawn_11 : decode cX10_doDrawn 11 = .ok (.istore_n 2, 1) := by decide +kernel
theorem dX10_doDrawn_12 : decode cX10_doDrawn 12 = .ok (.aload_n 0, 1) := by decide +kernel
theorem dX10_doDrawn_13 : decode cX10_doDrawn 13 = .ok (.iconst 4, 1) := by decide +kernel
theorem dX10_doDrawn_14 : decode cX10_doDrawn 14 = .ok (.invokevirtual 58, 3) := by decide +kernel
theorem dX10_doDrawn_17 : decode cX10_doDrawn 17 = .ok (.tableswitch 67 0 2 #[27, 43, 55], 27) := by decide +kernel
theorem dX10_doDrawn_44 : decode cX10_doDrawn 44 = .ok (.aload_n 0, 1) := by decide +kernel
theorem dX10_doDrawn_45 : decode cX10_doDrawn 45 = .ok (.getfield 10, 3) := by decide +kernel
theorem dX10_doDrawn_48 : decode cX10_doDrawn 48 = .ok (.aload_n 0, 1) := by decide +kernel
theorem dX10_doDrawn_49 : decode cX10_doDrawn 49 = .ok (.getfield 16, 3) := by decide +kernel
theorem dX10_doDrawn_52 : decode cX10_doDrawn 52 = .ok (.iload_n 2, 1) := by decide +kernel
theorem dX10_doDrawn_53 : decode cX10_doDrawn 53 = .ok (.invokevirtual 61, 3) := by decide +kernel
theorem dX10_doDrawn_56 : decode cX10_doDrawn 56 = .ok (.pop, 1) := by decide +kernel
theorem dX10_doDrawn_57 : decode cX10_doDrawn 57 = .ok (.goto 36, 3) := by decide +kernel
theorem dX10_doDrawn_60 : decode cX10_doDrawn 60 = .ok (.aload_n 0, 1) := by decide +kernel
theorem dX10_doDrawn_61 : decode cX10_doDrawn 61 = .ok (.getfield 10, 3) := by decide +kernel
theorem dX10_doDrawn_64 : decode cX10_doDrawn 64 = .ok (.iload_n 2, 1) := by decide +kernel
theorem dX10_doDrawn_65 : decode cX10_doDrawn 65 = .ok (.invokevirtual 65, 3) := by decide +kernel
theorem dX10_doDrawn_68 : decode cX10_doDrawn 68 = .ok (.pop, 1) := by decide +kernel
theorem dX10_doDrawn_69 : decode cX10_doDrawn 69 = .ok (.goto 24, 3) := by decide +kernel
theorem dX10_doDrawn_72 : decode cX10_doDrawn 72 = .ok (.aload_n 0, 1) := by decide +kernel
theorem dX10_doDrawn_73 : decode cX10_doDrawn 73 = .ok (.getfield 10, 3) := by decide +kernel
theorem dX10_doDrawn_76 : decode cX10_doDrawn 76 = .ok (.iload_n 2, 1) := by decide +kernel
theorem dX10_doDrawn_77 : decode cX10_doDrawn 77 = .ok (.invokevirtual 69, 3) := by decide +kernel
theorem dX10_doDrawn_80 : decode cX10_doDrawn 80 = .ok (.pop, 1) := by decide +kernel
theorem dX10_doDrawn_81 : decode cX10_doDrawn 81 = .ok (.goto 12, 3) := by decide +kernel
theorem dX10_doDrawn_84 : decode cX10_doDrawn 84 = .ok (.aload_n 0, 1) := by decide +kernel
theorem dX10_doDrawn_85 : decode cX10_doDrawn 85 = .ok (.getfield 10, 3) := by decide +kernel
theorem dX10_doDrawn_88 : decode cX10_doDrawn 88 = .ok (.iload_n 2, 1) := by decide +kernel
theorem dX10_doDrawn_89 : decode cX10_doDrawn 89 = .ok (.invokevirtual 72, 3) := by decide +kernel
theorem dX10_doDrawn_92 : decode cX10_doDrawn 92 = .ok (.pop, 1) := by decide +kernel
theorem dX10_doDrawn_93 : decode cX10_doDrawn 93 = .ok (.aload_n 0, 1) := by decide +kernel
theorem dX10_doDrawn_94 : decode cX10_doDrawn 94 = .ok (.bipush 16, 2) := by decide +kernel
theorem dX10_doDrawn_96 : decode cX10_doDrawn 96 = .ok (.invokevirtual 58, 3) := by decide +kernel
theorem dX10_doDrawn_99 : decode cX10_doDrawn 99 = .ok (.iload_n 1, 1) := by decide +kernel
theorem dX10_doDrawn_100 : decode cX10_doDrawn 100 = .ok (.if_icmp .ge 11, 3) := by decide +kernel
theorem dX10_doDrawn_103 : decode cX10_doDrawn 103 = .ok (.aload_n 0, 1) := by decide +kernel
theorem dX10_doDrawn_104 : decode cX10_doDrawn 104 = .ok (.getfield 10, 3) := by decide +kernel
theorem dX10_doDrawn_107 : decode cX10_doDrawn 107 = .ok (.invokevirtual 75, 3) := by decide +kernel
theorem dX10_doDrawn_110 : decode cX10_doDrawn 110 = .ok (.pop, 1) := by decide +kernel
theorem dX10_doDrawn_111 : decode cX10_doDrawn 111 = .ok (.return_, 1) := by decide +kernel
theorem dX10_drawn_0 : decode cX10_drawn 0 = .ok (.aload_n 0, 1) := by decide +kernel
theorem dX10_drawn_1 : decode cX10_drawn 1 = .ok (.aload_n 0, 1) := by decide +kernel
theorem dX10_drawn_2 : decode cX10_drawn 2 = .ok (.getfield 42, 3) := by decide +kernel
theorem dX10_drawn_5 : decode cX10_drawn 5 = .ok (.ldc 79, 2) := by decide +kernel
theorem dX10_drawn_7 : decode cX10_drawn 7 = .ok (.imul, 1) := by decide +kernel
theorem dX10_drawn_8 : decode cX10_drawn 8 = .ok (.sipush 12345, 3) := by decide +kernel
theorem dX10_drawn_11 : decode cX10_drawn 11 = .ok (.iadd, 1) := by decide +kernel
theorem dX10_drawn_12 : decode cX10_drawn 12 = .ok (.putfield 42, 3) := by decide +kernel
theorem dX10_drawn_15 : decode cX10_drawn 15 = .ok (.iload_n 1, 1) := by decide +kernel
theorem dX10_drawn_16 : decode cX10_drawn 16 = .ok (.ifCond .le 19, 3) := by decide +kernel
theorem dX10_drawn_19 : decode cX10_drawn 19 = .ok (.aload_n 0, 1) := by decide +kernel
theorem dX10_drawn_20 : decode cX10_drawn 20 = .ok (.getfield 42, 3) := by decide +kernel
theorem dX10_drawn_23 : decode cX10_drawn 23 = .ok (.bipush 16, 2) := by decide +kernel
theorem dX10_drawn_25 : decode cX10_drawn 25 = .ok (.iushr, 1) := by decide +kernel
theorem dX10_drawn_26 : decode cX10_drawn 26 = .ok (.sipush 32767, 3) := by decide +kernel
theorem dX10_drawn_29 : decode cX10_drawn 29 = .ok (.iand, 1) := by decide +kernel
theorem dX10_drawn_30 : decode cX10_drawn 30 = .ok (.iload_n 1, 1) := by decide +kernel
theorem dX10_drawn_31 : decode cX10_drawn 31 = .ok (.irem, 1) := by decide +kernel
theorem dX10_drawn_32 : decode cX10_drawn 32 = .ok (.goto 4, 3) := by decide +kernel
theorem dX10_drawn_35 : decode cX10_drawn 35 = .ok (.iconst 0, 1) := by decide +kernel
theorem dX10_drawn_36 : decode cX10_drawn 36 = .ok (.ireturn, 1) := by decide +kernel
theorem dX11_init_0 : decode cX11_init 0 = .ok (.aload_n 0, 1) := by decide +kernel
theorem dX11_init_1 : decode cX11_init 1 = .ok (.invokespecial 1, 3) := by decide +kernel
theorem dX11_init_4 : decode cX11_init 4 = .ok (.aload_n 0, 1) := by decide +kernel
theorem dX11_init_5 : decode cX11_init 5 = .ok (.new 7, 3) := by decide +kernel
theorem dX11_init_8 : decode cX11_init 8 = .ok (.dup, 1) := by decide +kernel
theorem dX11_init_9 : decode cX11_init 9 = .ok (.invokespecial 9, 3) := by decide +kernel
theorem dX11_init_12 : decode cX11_init 12 = .ok (.putfield 10, 3) := by decide +kernel
theorem dX11_init_15 : decode cX11_init 15 = .ok (.aload_n 0, 1) := by decide +kernel
theorem dX11_init_16 : decode cX11_init 16 = .ok (.new 16, 3) := by decide +kernel
theorem dX11_init_19 : decode cX11_init 19 = .ok (.dup, 1) := by decide +kernel
theorem dX11_init_20 : decode cX11_init 20 = .ok (.invokespecial 18, 3) := by decide +kernel
theorem dX11_init_23 : decode cX11_init 23 = .ok (.putfield 19, 3) := by decide +kernel
theorem dX11_init_26 : decode cX11_init 26 = .ok (.aload_n 0, 1) := by decide +kernel
theorem dX11_init_27 : decode cX11_init 27 = .ok (.new 16, 3) := by decide +kernel
theorem dX11_init_30 : decode cX11_init 30 = .ok (.dup, 1) := by decide +kernel
theorem dX11_init_31 : decode cX11_init 31 = .ok (.invokespecial 18, 3) := by decide +kernel
theorem dX11_init_34 : decode cX11_init 34 = .ok (.putfield 23, 3) := by decide +kernel
theorem dX11_init_37 : decode cX11_init 37 = .ok (.aload_n 0, 1) := by decide +kernel
theorem dX11_init_38 : decode cX11_init 38 = .ok (.new 26, 3) := by decide +kernel
theorem dX11_init_41 : decode cX11_init 41 = .ok (.dup, 1) := by decide +kernel
theorem dX11_init_42 : decode cX11_init 42 = .ok (.invokespecial 28, 3) := by decide +kernel
theorem dX11_init_45 : decode cX11_init 45 = .ok (.putfield 29, 3) := by decide +kernel
theorem dX11_init_48 : decode cX11_init 48 = .ok (.aload_n 0, 1) := by decide +kernel
theorem dX11_init_49 : decode cX11_init 49 = .ok (.new 26, 3) := by decide +kernel
theorem dX11_init_52 : decode cX11_init 52 = .ok (.dup, 1) := by decide +kernel
theorem dX11_init_53 : decode cX11_init 53 = .ok (.invokespecial 28, 3) := by decide +kernel
theorem dX11_init_56 : decode cX11_init 56 = .ok (.putfield 33, 3) := by decide +kernel
theorem dX11_init_59 : decode cX11_init 59 = .ok (.aload_n 0, 1) := by decide +kernel
theorem dX11_init_60 : decode cX11_init 60 = .ok (.new 36, 3) := by decide +kernel
theorem dX11_init_63 : decode cX11_init 63 = .ok (.dup, 1) := by decide +kernel
theorem dX11_init_64 : decode cX11_init 64 = .ok (.invokespecial 38, 3) := by decide +kernel
theorem dX11_init_67 : decode cX11_init 67 = .ok (.putfield 39, 3) := by decide +kernel
theorem dX11_init_70 : decode cX11_init 70 = .ok (.aload_n 0, 1) := by decide +kernel
theorem dX11_init_71 : decode cX11_init 71 = .ok (.new 36, 3) := by decide +kernel
theorem dX11_init_74 : decode cX11_init 74 = .ok (.dup, 1) := by decide +kernel
theorem dX11_init_75 : decode cX11_init 75 = .ok (.invokespecial 38, 3) := by decide +kernel
theorem dX11_init_78 : decode cX11_init 78 = .ok (.putfield 43, 3) := by decide +kernel
theorem dX11_init_81 : decode cX11_init 81 = .ok (.aload_n 0, 1) := by decide +kernel
theorem dX11_init_82 : decode cX11_init 82 = .ok (.new 46, 3) := by decide +kernel
theorem dX11_init_85 : decode cX11_init 85 = .ok (.dup, 1) := by decide +kernel
theorem dX11_init_86 : decode cX11_init 86 = .ok (.invokespecial 48, 3) := by decide +kernel
theorem dX11_init_89 : decode cX11_init 89 = .ok (.putfield 49, 3) := by decide +kernel
theorem dX11_init_92 : decode cX11_init 92 = .ok (.aload_n 0, 1) := by decide +kernel
theorem dX11_init_93 : decode cX11_init 93 = .ok (.new 53, 3) := by decide +kernel
theorem dX11_init_96 : decode cX11_init 96 = .ok (.dup, 1) := by decide +kernel
theorem dX11_init_97 : decode cX11_init 97 = .ok (.invokespecial 55, 3) := by decide +kernel
theorem dX11_init_100 : decode cX11_init 100 = .ok (.putfield 56, 3) := by decide +kernel
theorem dX11_init_103 : decode cX11_init 103 = .ok (.aload_n 0, 1) := by decide +kernel
theorem dX11_init_104 : decode cX11_init 104 = .ok (.new 60, 3) := by decide +kernel
theorem dX11_init_107 : decode cX11_init 107 = .ok (.dup, 1) := by decide +kernel
theorem dX11_init_108 : decode cX11_init 108 = .ok (.invokespecial 62, 3) := by decide +kernel
theorem dX11_init_111 : decode cX11_init 111 = .ok (.putfield 63, 3) := by decide +kernel
theorem dX11_init_114 : decode cX11_init 114 = .ok (.aload_n 0, 1) := by decide +kernel
theorem dX11_init_115 : decode cX11_init 115 = .ok (.new 67, 3) := by decide +kernel
theorem dX11_init_118 : decode cX11_init 118 = .ok (.dup, 1) := by decide +kernel
theorem dX11_init_119 : decode cX11_init 119 = .ok (.aload_n 0, 1) := by decide +kernel
theorem dX11_init_120 : decode cX11_init 120 = .ok (.getfield 19, 3) := by decide +kernel
theorem dX11_init_123 : decode cX11_init 123 = .ok (.aload_n 0, 1) := by decide +kernel
theorem dX11_init_124 : decode cX11_init 124 = .ok (.getfield 29, 3) := by decide +kernel
theorem dX11_init_127 : decode cX11_init 127 = .ok (.invokespecial 69, 3) := by decide +kernel
theorem dX11_init_130 : decode cX11_init 130 = .ok (.putfield 72, 3) := by decide +kernel
theorem dX11_init_133 : decode cX11_init 133 = .ok (.aload_n 0, 1) := by decide +kernel
theorem dX11_init_134 : decode cX11_init 134 = .ok (.new 76, 3) := by decide +kernel
theorem dX11_init_137 : decode cX11_init 137 = .ok (.dup, 1) := by decide +kernel
theorem dX11_init_138 : decode cX11_init 138 = .ok (.aload_n 0, 1) := by decide +kernel
theorem dX11_init_139 : decode cX11_init 139 = .ok (.getfield 19, 3) := by decide +kernel
theorem dX11_init_142 : decode cX11_init 142 = .ok (.aload_n 0, 1) := by decide +kernel
theorem dX11_init_143 : decode cX11_init 143 = .ok (.getfield 72, 3) := by decide +kernel
theorem dX11_init_146 : decode cX11_init 146 = .ok (.invokespecial 78, 3) := by decide +kernel
theorem dX11_init_149 : decode cX11_init 149 = .ok (.putfield 81, 3) := by decide +kernel
theorem dX11_init_152 : decode cX11_init 152 = .ok (.aload_n 0, 1) := by decide +kernel
theorem dX11_init_153 : decode cX11_init 153 = .ok (.new 85, 3) := by decide +kernel
theorem dX11_init_156 : decode cX11_init 156 = .ok (.dup, 1) := by decide +kernel
theorem dX11_init_157 : decode cX11_init 157 = .ok (.aload_n 0, 1) := by decide +kernel
theorem dX11_init_158 : decode cX11_init 158 = .ok (.getfield 72, 3) := by decide +kernel
theorem dX11_init_161 : decode cX11_init 161 = .ok (.invokespecial 87, 3) := by decide +kernel
theorem dX11_init_164 : decode cX11_init 164 = .ok (.putfield 90, 3) := by decide +kernel
theorem dX11_init_167 : decode cX11_init 167 = .ok (.aload_n 0, 1) := by decide +kernel
theorem dX11_init_168 : decode cX11_init 168 = .ok (.new 94, 3) := by decide +kernel
theorem dX11_init_171 : decode cX11_init 171 = .ok (.dup, 1) := by decide +kernel
theorem dX11_init_172 : decode cX11_init 172 = .ok (.aload_n 0, 1) := by decide +kernel
theorem dX11_init_173 : decode cX11_init 173 = .ok (.getfield 19, 3) := by decide +kernel
theorem dX11_init_176 : decode cX11_init 176 = .ok (.aload_n 0, 1) := by decide +kernel
theorem dX11_init_177 : decode cX11_init 177 = .ok (.getfield 72, 3) := by decide +kernel
theorem dX11_init_180 : decode cX11_init 180 = .ok (.invokespecial 96, 3) := by decide +kernel
theorem dX11_init_183 : decode cX11_init 183 = .ok (.putfield 97, 3) := by decide +kernel
theorem dX11_init_186 : decode cX11_init 186 = .ok (.aload_n 0, 1) := by decide +kernel
theorem dX11_init_187 : decode cX11_init 187 = .ok (.getfield 56, 3) := by decide +kernel
theorem dX11_init_190 : decode cX11_init 190 = .ok (.aload_n 0, 1) := by decide +kernel
theorem dX11_init_191 : decode cX11_init 191 = .ok (.getfield 19, 3) := by decide +kernel
theorem dX11_init_194 : decode cX11_init 194 = .ok (.getfield 101, 3) := by decide +kernel
theorem dX11_init_197 : decode cX11_init 197 = .ok (.invokevirtual 105, 3) := by decide +kernel
theorem dX11_init_200 : decode cX11_init 200 = .ok (.return_, 1) := by decide +kernel
theorem dX11_feed_0 : decode cX11_feed 0 = .ok (.aload_n 0, 1) := by decide +kernel
theorem dX11_feed_1 : decode cX11_feed 1 = .ok (.getfield 10, 3) := by decide +kernel
theorem dX11_feed_4 : decode cX11_feed 4 = .ok (.invokevirtual 109, 3) := by decide +kernel
theorem dX11_feed_7 : decode cX11_feed 7 = .ok (.ifCond .ne 5, 3) := by decide +kernel
theorem dX11_feed_10 : decode cX11_feed 10 = .ok (.iconst (-1), 1) := by decide +kernel
theorem dX11_feed_11 : decode cX11_feed 11 = .ok (.ireturn, 1) := by decide +kernel
theorem dX11_feed_12 : decode cX11_feed 12 = .ok (.aload_n 0, 1) := by decide +kernel
theorem dX11_feed_13 : decode cX11_feed 13 = .ok (.getfield 10, 3) := by decide +kernel
theorem dX11_feed_16 : decode cX11_feed 16 = .ok (.iload_n 1, 1) := by decide +kernel
theorem dX11_feed_17 : decode cX11_feed 17 = .ok (.invokevirtual 113, 3) := by decide +kernel
theorem dX11_feed_20 : decode cX11_feed 20 = .ok (.aload_n 0, 1) := by decide +kernel
theorem dX11_feed_21 : decode cX11_feed 21 = .ok (.getfield 10, 3) := by decide +kernel
theorem dX11_feed_24 : decode cX11_feed 24 = .ok (.iload_n 2, 1) := by decide +kernel
theorem dX11_feed_25 : decode cX11_feed 25 = .ok (.invokevirtual 113, 3) := by decide +kernel
theorem dX11_feed_28 : decode cX11_feed 28 = .ok (.aload_n 0, 1) := by decide +kernel
theorem dX11_feed_29 : decode cX11_feed 29 = .ok (.getfield 10, 3) := by decide +kernel
theorem dX11_feed_32 : decode cX11_feed 32 = .ok (.iload_n 3, 1) := by decide +kernel
theorem dX11_feed_33 : decode cX11_feed 33 = .ok (.invokevirtual 113, 3) := by decide +kernel
theorem dX11_feed_36 : decode cX11_feed 36 = .ok (.aload_n 0, 1) := by decide +kernel
theorem dX11_feed_37 : decode cX11_feed 37 = .ok (.getfield 10, 3) := by decide +kernel
theorem dX11_feed_40 : decode cX11_feed 40 = .ok (.iload 4, 2) := by decide +kernel
theorem dX11_feed_42 : decode cX11_feed 42 = .ok (.invokevirtual 113, 3) := by decide +kernel
theorem dX11_feed_45 : decode cX11_feed 45 = .ok (.aload_n 0, 1) := by decide +kernel
theorem dX11_feed_46 : decode cX11_feed 46 = .ok (.getfield 10, 3) := by decide +kernel
theorem dX11_feed_49 : decode cX11_feed 49 = .ok (.iload 5, 2) := by decide +kernel
theorem dX11_feed_51 : decode cX11_feed 51 = .ok (.invokevirtual 113, 3) := by decide +kernel
theorem dX11_feed_54 : decode cX11_feed 54 = .ok (.aload_n 0, 1) := by decide +kernel
theorem dX11_feed_55 : decode cX11_feed 55 = .ok (.getfield 10, 3) := by decide +kernel
theorem dX11_feed_58 : decode cX11_feed 58 = .ok (.getfield 116, 3) := by decide +kernel
theorem dX11_feed_61 : decode cX11_feed 61 = .ok (.ireturn, 1) := by decide +kernel
theorem dX11_house_0 : decode cX11_house 0 = .ok (.aload_n 0, 1) := by decide +kernel
theorem dX11_house_1 : decode cX11_house 1 = .ok (.iload_n 1, 1) := by decide +kernel
theorem dX11_house_2 : decode cX11_house 2 = .ok (.sipush 600, 3) := by decide +kernel
theorem dX11_house_5 : decode cX11_house 5 = .ok (.invokevirtual 119, 3) := by decide +kernel
theorem dX11_house_8 : decode cX11_house 8 = .ok (.aload_n 0, 1) := by decide +kernel
theorem dX11_house_9 : decode cX11_house 9 = .ok (.getfield 23, 3) := by decide +kernel
theorem dX11_house_12 : decode cX11_house 12 = .ok (.aload_n 0, 1) := by decide +kernel
theorem dX11_house_13 : decode cX11_house 13 = .ok (.getfield 10, 3) := by decide +kernel
theorem dX11_house_16 : decode cX11_house 16 = .ok (.invokevirtual 123, 3) := by decide +kernel
theorem dX11_house_19 : decode cX11_house 19 = .ok (.ifCond .ne 14, 3) := by decide +kernel
theorem dX11_house_22 : decode cX11_house 22 = .ok (.aload_n 0, 1) := by decide +kernel
theorem dX11_house_23 : decode cX11_house 23 = .ok (.getfield 10, 3) := by decide +kernel
theorem dX11_house_26 : decode cX11_house 26 = .ok (.getfield 127, 3) := by decide +kernel
theorem dX11_house_29 : decode cX11_house 29 = .ok (.bipush 10, 2) := by decide +kernel
theorem dX11_house_31 : decode cX11_house 31 = .ok (.isub, 1) := by decide +kernel
theorem dX11_house_32 : decode cX11_house 32 = .ok (.ireturn, 1) := by decide +kernel
theorem dX11_house_33 : decode cX11_house 33 = .ok (.aload_n 0, 1) := by decide +kernel
theorem dX11_house_34 : decode cX11_house 34 = .ok (.getfield 19, 3) := by decide +kernel
theorem dX11_house_37 : decode cX11_house 37 = .ok (.aload_n 0, 1) := by decide +kernel
theorem dX11_house_38 : decode cX11_house 38 = .ok (.getfield 23, 3) := by decide +kernel
theorem dX11_house_41 : decode cX11_house 41 = .ok (.invokevirtual 130, 3) := by decide +kernel
theorem dX11_house_44 : decode cX11_house 44 = .ok (.aload_n 0, 1) := by decide +kernel
theorem dX11_house_45 : decode cX11_house 45 = .ok (.getfield 29, 3) := by decide +kernel
theorem dX11_house_48 : decode cX11_house 48 = .ok (.invokevirtual 134, 3) := by decide +kernel
theorem dX11_house_51 : decode cX11_house 51 = .ok (.aload_n 0, 1) := by decide +kernel
theorem dX11_house_52 : decode cX11_house 52 = .ok (.getfield 39, 3) := by decide +kernel
theorem dX11_house_55 : decode cX11_house 55 = .ok (.invokevirtual 137, 3) := by decide +kernel
theorem dX11_house_58 : decode cX11_house 58 = .ok (.aload_n 0, 1) := by decide +kernel
theorem dX11_house_59 : decode cX11_house 59 = .ok (.getfield 63, 3) := by decide +kernel
theorem dX11_house_62 : decode cX11_house 62 = .ok (.invokevirtual 140, 3) := by decide +kernel
theorem dX11_house_65 : decode cX11_house 65 = .ok (.aload_n 0, 1) := by decide +kernel
theorem dX11_house_66 : decode cX11_house 66 = .ok (.getfield 56, 3) := by decide +kernel
theorem dX11_house_69 : decode cX11_house 69 = .ok (.aload_n 0, 1) := by decide +kernel
theorem dX11_house_70 : decode cX11_house 70 = .ok (.getfield 19, 3) := by decide +kernel
theorem dX11_house_73 : decode cX11_house 73 = .ok (.getfield 101, 3) := by decide +kernel
theorem dX11_house_76 : decode cX11_house 76 = .ok (.invokevirtual 105, 3) := by decide +kernel
theorem dX11_house_79 : decode cX11_house 79 = .ok (.aload_n 0, 1) := by decide +kernel
theorem dX11_house_80 : decode cX11_house 80 = .ok (.getfield 49, 3) := by decide +kernel
theorem dX11_house_83 : decode cX11_house 83 = .ok (.iconst 0, 1) := by decide +kernel
theorem dX11_house_84 : decode cX11_house 84 = .ok (.putfield 143, 3) := by decide +kernel
theorem dX11_house_87 : decode cX11_house 87 = .ok (.aload_n 0, 1) := by decide +kernel
theorem dX11_house_88 : decode cX11_house 88 = .ok (.getfield 81, 3) := by decide +kernel
theorem dX11_house_91 : decode cX11_house 91 = .ok (.invokevirtual 146, 3) := by decide +kernel
theorem dX11_house_94 : decode cX11_house 94 = .ok (.aload_n 0, 1) := by decide +kernel
theorem dX11_house_95 : decode cX11_house 95 = .ok (.getfield 19, 3) := by decide +kernel
theorem dX11_house_98 : decode cX11_house 98 = .ok (.getfield 149, 3) := by decide +kernel
theorem dX11_house_101 : decode cX11_house 101 = .ok (.ireturn, 1) := by decide +kernel
theorem dX11_law_0 : decode cX11_law 0 = .ok (.aload_n 0, 1) := by decide +kernel
theorem dX11_law_1 : decode cX11_law 1 = .ok (.iload_n 1, 1) := by decide +kernel
theorem dX11_law_2 : decode cX11_law 2 = .ok (.sipush 150, 3) := by decide +kernel
theorem dX11_law_5 : decode cX11_law 5 = .ok (.invokevirtual 119, 3) := by decide +kernel
theorem dX11_law_8 : decode cX11_law 8 = .ok (.aload_n 0, 1) := by decide +kernel
theorem dX11_law_9 : decode cX11_law 9 = .ok (.getfield 33, 3) := by decide +kernel
theorem dX11_law_12 : decode cX11_law 12 = .ok (.aload_n 0, 1) := by decide +kernel
theorem dX11_law_13 : decode cX11_law 13 = .ok (.getfield 10, 3) := by decide +kernel
theorem dX11_law_16 : decode cX11_law 16 = .ok (.invokevirtual 152, 3) := by decide +kernel
theorem dX11_law_19 : decode cX11_law 19 = .ok (.ifCond .ne 14, 3) := by decide +kernel
theorem dX11_law_22 : decode cX11_law 22 = .ok (.aload_n 0, 1) := by decide +kernel
theorem dX11_law_23 : decode cX11_law 23 = .ok (.getfield 10, 3) := by decide +kernel
theorem dX11_law_26 : decode cX11_law 26 = .ok (.getfield 127, 3) := by decide +kernel
theorem dX11_law_29 : decode cX11_law 29 = .ok (.bipush 10, 2) := by decide +kernel
theorem dX11_law_31 : decode cX11_law 31 = .ok (.isub, 1) := by decide +kernel
theorem dX11_law_32 : decode cX11_law 32 = .ok (.ireturn, 1) := by decide +kernel
theorem dX11_law_33 : decode cX11_law 33 = .ok (.aload_n 0, 1) := by decide +kernel
theorem dX11_law_34 : decode cX11_law 34 = .ok (.getfield 29, 3) := by decide +kernel
theorem dX11_law_37 : decode cX11_law 37 = .ok (.aload_n 0, 1) := by decide +kernel
theorem dX11_law_38 : decode cX11_law 38 = .ok (.getfield 33, 3) := by decide +kernel
theorem dX11_law_41 : decode cX11_law 41 = .ok (.invokevirtual 153, 3) := by decide +kernel
theorem dX11_law_44 : decode cX11_law 44 = .ok (.aload_n 0, 1) := by decide +kernel
theorem dX11_law_45 : decode cX11_law 45 = .ok (.getfield 81, 3) := by decide +kernel
theorem dX11_law_48 : decode cX11_law 48 = .ok (.invokevirtual 156, 3) := by decide +kernel
theorem dX11_law_51 : decode cX11_law 51 = .ok (.iconst 1, 1) := by decide +kernel
theorem dX11_law_52 : decode cX11_law 52 = .ok (.ireturn, 1) := by decide +kernel
theorem dX11_work_0 : decode cX11_work 0 = .ok (.aload_n 0, 1) := by decide +kernel
theorem dX11_work_1 : decode cX11_work 1 = .ok (.iload_n 1, 1) := by decide +kernel
theorem dX11_work_2 : decode cX11_work 2 = .ok (.sipush 150, 3) := by decide +kernel
theorem dX11_work_5 : decode cX11_work 5 = .ok (.invokevirtual 119, 3) := by decide +kernel
theorem dX11_work_8 : decode cX11_work 8 = .ok (.aload_n 0, 1) := by decide +kernel
theorem dX11_work_9 : decode cX11_work 9 = .ok (.getfield 63, 3) := by decide +kernel
theorem dX11_work_12 : decode cX11_work 12 = .ok (.invokevirtual 159, 3) := by decide +kernel
theorem dX11_work_15 : decode cX11_work 15 = .ok (.ifCond .eq 6, 3) := by decide +kernel
theorem dX11_work_18 : decode cX11_work 18 = .ok (.bipush (-20), 2) := by decide +kernel
theorem dX11_work_20 : decode cX11_work 20 = .ok (.ireturn, 1) := by decide +kernel
theorem dX11_work_21 : decode cX11_work 21 = .ok (.aload_n 0, 1) := by decide +kernel
theorem dX11_work_22 : decode cX11_work 22 = .ok (.getfield 49, 3) := by decide +kernel
theorem dX11_work_25 : decode cX11_work 25 = .ok (.aload_n 0, 1) := by decide +kernel
theorem dX11_work_26 : decode cX11_work 26 = .ok (.getfield 10, 3) := by decide +kernel
theorem dX11_work_29 : decode cX11_work 29 = .ok (.aload_n 0, 1) := by decide +kernel
theorem dX11_work_30 : decode cX11_work 30 = .ok (.getfield 19, 3) := by decide +kernel
theorem dX11_work_33 : decode cX11_work 33 = .ok (.getfield 149, 3) := by decide +kernel
theorem dX11_work_36 : decode cX11_work 36 = .ok (.invokevirtual 162, 3) := by decide +kernel
theorem dX11_work_39 : decode cX11_work 39 = .ok (.ifCond .ne 14, 3) := by decide +kernel
theorem dX11_work_42 : decode cX11_work 42 = .ok (.aload_n 0, 1) := by decide +kernel
theorem dX11_work_43 : decode cX11_work 43 = .ok (.getfield 10, 3) := by decide +kernel
theorem dX11_work_46 : decode cX11_work 46 = .ok (.getfield 127, 3) := by decide +kernel
theorem dX11_work_49 : decode cX11_work 49 = .ok (.bipush 10, 2) := by decide +kernel
theorem dX11_work_51 : decode cX11_work 51 = .ok (.isub, 1) := by decide +kernel
theorem dX11_work_52 : decode cX11_work 52 = .ok (.ireturn, 1) := by decide +kernel
theorem dX11_work_53 : decode cX11_work 53 = .ok (.aload_n 0, 1) := by decide +kernel
theorem dX11_work_54 : decode cX11_work 54 = .ok (.getfield 63, 3) := by decide +kernel
theorem dX11_work_57 : decode cX11_work 57 = .ok (.aload_n 0, 1) := by decide +kernel
theorem dX11_work_58 : decode cX11_work 58 = .ok (.getfield 56, 3) := by decide +kernel
theorem dX11_work_61 : decode cX11_work 61 = .ok (.invokevirtual 165, 3) := by decide +kernel
theorem dX11_work_64 : decode cX11_work 64 = .ok (.aload_n 0, 1) := by decide +kernel
theorem dX11_work_65 : decode cX11_work 65 = .ok (.getfield 81, 3) := by decide +kernel
theorem dX11_work_68 : decode cX11_work 68 = .ok (.invokevirtual 156, 3) := by decide +kernel
theorem dX11_work_71 : decode cX11_work 71 = .ok (.aload_n 0, 1) := by decide +kernel
theorem dX11_work_72 : decode cX11_work 72 = .ok (.getfield 49, 3) := by decide +kernel
theorem dX11_work_75 : decode cX11_work 75 = .ok (.aload_n 0, 1) := by decide +kernel
theorem dX11_work_76 : decode cX11_work 76 = .ok (.getfield 56, 3) := by decide +kernel
theorem dX11_work_79 : decode cX11_work 79 = .ok (.aload_n 0, 1) := by decide +kernel
theorem dX11_work_80 : decode cX11_work 80 = .ok (.getfield 19, 3) := by decide +kernel
theorem dX11_work_83 : decode cX11_work 83 = .ok (.aload_n 0, 1) := by decide +kernel
theorem dX11_work_84 : decode cX11_work 84 = .ok (.getfield 72, 3) := by decide +kernel
theorem dX11_work_87 : decode cX11_work 87 = .ok (.invokevirtual 169, 3) := by decide +kernel
theorem dX11_work_90 : decode cX11_work 90 = .ok (.ireturn, 1) := by decide +kernel
theorem dX11_book_0 : decode cX11_book 0 = .ok (.aload_n 0, 1) := by decide +kernel
theorem dX11_book_1 : decode cX11_book 1 = .ok (.iload_n 1, 1) := by decide +kernel
theorem dX11_book_2 : decode cX11_book 2 = .ok (.bipush 60, 2) := by decide +kernel
theorem dX11_book_4 : decode cX11_book 4 = .ok (.invokevirtual 119, 3) := by decide +kernel
theorem dX11_book_7 : decode cX11_book 7 = .ok (.aload_n 0, 1) := by decide +kernel
theorem dX11_book_8 : decode cX11_book 8 = .ok (.getfield 43, 3) := by decide +kernel
theorem dX11_book_11 : decode cX11_book 11 = .ok (.aload_n 0, 1) := by decide +kernel
theorem dX11_book_12 : decode cX11_book 12 = .ok (.getfield 10, 3) := by decide +kernel
theorem dX11_book_15 : decode cX11_book 15 = .ok (.invokevirtual 173, 3) := by decide +kernel
theorem dX11_book_18 : decode cX11_book 18 = .ok (.ifCond .ne 14, 3) := by decide +kernel
theorem dX11_book_21 : decode cX11_book 21 = .ok (.aload_n 0, 1) := by decide +kernel
theorem dX11_book_22 : decode cX11_book 22 = .ok (.getfield 10, 3) := by decide +kernel
theorem dX11_book_25 : decode cX11_book 25 = .ok (.getfield 127, 3) := by decide +kernel
theorem dX11_book_28 : decode cX11_book 28 = .ok (.bipush 10, 2) := by decide +kernel
theorem dX11_book_30 : decode cX11_book 30 = .ok (.isub, 1) := by decide +kernel
theorem dX11_book_31 : decode cX11_book 31 = .ok (.ireturn, 1) := by decide +kernel
theorem dX11_book_32 : decode cX11_book 32 = .ok (.aload_n 0, 1) := by decide +kernel
theorem dX11_book_33 : decode cX11_book 33 = .ok (.getfield 39, 3) := by decide +kernel
theorem dX11_book_36 : decode cX11_book 36 = .ok (.aload_n 0, 1) := by decide +kernel
theorem dX11_book_37 : decode cX11_book 37 = .ok (.getfield 43, 3) := by decide +kernel
theorem dX11_book_40 : decode cX11_book 40 = .ok (.invokevirtual 174, 3) := by decide +kernel
theorem dX11_book_43 : decode cX11_book 43 = .ok (.aload_n 0, 1) := by decide +kernel
theorem dX11_book_44 : decode cX11_book 44 = .ok (.getfield 39, 3) := by decide +kernel
theorem dX11_book_47 : decode cX11_book 47 = .ok (.getfield 177, 3) := by decide +kernel
theorem dX11_book_50 : decode cX11_book 50 = .ok (.ireturn, 1) := by decide +kernel
theorem dX11_fault_0 : decode cX11_fault 0 = .ok (.aload_n 0, 1) := by decide +kernel
theorem dX11_fault_1 : decode cX11_fault 1 = .ok (.getfield 10, 3) := by decide +kernel
theorem dX11_fault_4 : decode cX11_fault 4 = .ok (.getfield 180, 3) := by decide +kernel
theorem dX11_fault_7 : decode cX11_fault 7 = .ok (.ireturn, 1) := by decide +kernel
theorem dX11_undo_0 : decode cX11_undo 0 = .ok (.aload_n 0, 1) := by decide +kernel
theorem dX11_undo_1 : decode cX11_undo 1 = .ok (.getfield 63, 3) := by decide +kernel
theorem dX11_undo_4 : decode cX11_undo 4 = .ok (.getfield 183, 3) := by decide +kernel
theorem dX11_undo_7 : decode cX11_undo 7 = .ok (.ifCond .gt 5, 3) := by decide +kernel
theorem dX11_undo_10 : decode cX11_undo 10 = .ok (.iconst (-1), 1) := by decide +kernel
theorem dX11_undo_11 : decode cX11_undo 11 = .ok (.ireturn, 1) := by decide +kernel
theorem dX11_undo_12 : decode cX11_undo 12 = .ok (.aload_n 0, 1) := by decide +kernel
theorem dX11_undo_13 : decode cX11_undo 13 = .ok (.getfield 63, 3) := by decide +kernel
theorem dX11_undo_16 : decode cX11_undo 16 = .ok (.aload_n 0, 1) := by decide +kernel
theorem dX11_undo_17 : decode cX11_undo 17 = .ok (.getfield 56, 3) := by decide +kernel
theorem dX11_undo_20 : decode cX11_undo 20 = .ok (.invokevirtual 186, 3) := by decide +kernel
theorem dX11_undo_23 : decode cX11_undo 23 = .ok (.aload_n 0, 1) := by decide +kernel
theorem dX11_undo_24 : decode cX11_undo 24 = .ok (.getfield 49, 3) := by decide +kernel
theorem dX11_undo_27 : decode cX11_undo 27 = .ok (.iconst 0, 1) := by decide +kernel
theorem dX11_undo_28 : decode cX11_undo 28 = .ok (.putfield 143, 3) := by decide +kernel
theorem dX11_undo_31 : decode cX11_undo 31 = .ok (.aload_n 0, 1) := by decide +kernel
theorem dX11_undo_32 : decode cX11_undo 32 = .ok (.getfield 81, 3) := by decide +kernel
theorem dX11_undo_35 : decode cX11_undo 35 = .ok (.invokevirtual 156, 3) := by decide +kernel
theorem dX11_undo_38 : decode cX11_undo 38 = .ok (.aload_n 0, 1) := by decide +kernel
theorem dX11_undo_39 : decode cX11_undo 39 = .ok (.getfield 63, 3) := by decide +kernel
theorem dX11_undo_42 : decode cX11_undo 42 = .ok (.getfield 183, 3) := by decide +kernel
theorem dX11_undo_45 : decode cX11_undo 45 = .ok (.ireturn, 1) := by decide +kernel
theorem dX11_told_0 : decode cX11_told 0 = .ok (.aload_n 0, 1) := by decide +kernel
theorem dX11_told_1 : decode cX11_told 1 = .ok (.iload_n 1, 1) := by decide +kernel
theorem dX11_told_2 : decode cX11_told 2 = .ok (.iconst 0, 1) := by decide +kernel
theorem dX11_told_3 : decode cX11_told 3 = .ok (.bipush 11, 2) := by decide +kernel
theorem dX11_told_5 : decode cX11_told 5 = .ok (.invokestatic 189, 3) := by decide +kernel
theorem dX11_told_8 : decode cX11_told 8 = .ok (.invokevirtual 193, 3) := by decide +kernel
theorem dX11_told_11 : decode cX11_told 11 = .ok (.iload_n 1, 1) := by decide +kernel
theorem dX11_told_12 : decode cX11_told 12 = .ok (.tableswitch 163 0 10 #[60, 68, 76, 84, 92, 100, 108, 120, 139, 147, 155], 60) := by decide +kernel
theorem dX11_told_72 : decode cX11_told 72 = .ok (.aload_n 0, 1) := by decide +kernel
theorem dX11_told_73 : decode cX11_told 73 = .ok (.getfield 19, 3) := by decide +kernel
theorem dX11_told_76 : decode cX11_told 76 = .ok (.getfield 149, 3) := by decide +kernel
theorem dX11_told_79 : decode cX11_told 79 = .ok (.ireturn, 1) := by decide +kernel
theorem dX11_told_80 : decode cX11_told 80 = .ok (.aload_n 0, 1) := by decide +kernel
theorem dX11_told_81 : decode cX11_told 81 = .ok (.getfield 19, 3) := by decide +kernel
theorem dX11_told_84 : decode cX11_told 84 = .ok (.getfield 197, 3) := by decide +kernel
theorem dX11_told_87 : decode cX11_told 87 = .ok (.ireturn, 1) := by decide +kernel
theorem dX11_told_88 : decode cX11_told 88 = .ok (.aload_n 0, 1) := by decide +kernel
theorem dX11_told_89 : decode cX11_told 89 = .ok (.getfield 19, 3) := by decide +kernel
theorem dX11_told_92 : decode cX11_told 92 = .ok (.getfield 200, 3) := by decide +kernel
theorem dX11_told_95 : decode cX11_told 95 = .ok (.ireturn, 1) := by decide +kernel
theorem dX11_told_96 : decode cX11_told 96 = .ok (.aload_n 0, 1) := by decide +kernel
theorem dX11_told_97 : decode cX11_told 97 = .ok (.getfield 56, 3) := by decide +kernel
theorem dX11_told_100 : decode cX11_told 100 = .ok (.getfield 203, 3) := by decide +kernel
theorem dX11_told_103 : decode cX11_told 103 = .ok (.ireturn, 1) := by decide +kernel
theorem dX11_told_104 : decode cX11_told 104 = .ok (.aload_n 0, 1) := by decide +kernel
theorem dX11_told_105 : decode cX11_told 105 = .ok (.getfield 56, 3) := by decide +kernel
theorem dX11_told_108 : decode cX11_told 108 = .ok (.getfield 206, 3) := by decide +kernel
theorem dX11_told_111 : decode cX11_told 111 = .ok (.ireturn, 1) := by decide +kernel
theorem dX11_told_112 : decode cX11_told 112 = .ok (.aload_n 0, 1) := by decide +kernel
theorem dX11_told_113 : decode cX11_told 113 = .ok (.getfield 56, 3) := by decide +kernel
theorem dX11_told_116 : decode cX11_told 116 = .ok (.invokevirtual 209, 3) := by decide +kernel
theorem dX11_told_119 : decode cX11_told 119 = .ok (.ireturn, 1) := by decide +kernel
theorem dX11_told_120 : decode cX11_told 120 = .ok (.aload_n 0, 1) := by decide +kernel
theorem dX11_told_121 : decode cX11_told 121 = .ok (.getfield 56, 3) := by decide +kernel
theorem dX11_told_124 : decode cX11_told 124 = .ok (.aload_n 0, 1) := by decide +kernel
theorem dX11_told_125 : decode cX11_told 125 = .ok (.getfield 19, 3) := by decide +kernel
theorem dX11_told_128 : decode cX11_told 128 = .ok (.invokevirtual 213, 3) := by decide +kernel
theorem dX11_told_131 : decode cX11_told 131 = .ok (.ireturn, 1) := by decide +kernel
theorem dX11_told_132 : decode cX11_told 132 = .ok (.aload_n 0, 1) := by decide +kernel
theorem dX11_told_133 : decode cX11_told 133 = .ok (.getfield 72, 3) := by decide +kernel
theorem dX11_told_136 : decode cX11_told 136 = .ok (.aload_n 0, 1) := by decide +kernel
theorem dX11_told_137 : decode cX11_told 137 = .ok (.getfield 56, 3) := by decide +kernel
theorem dX11_told_140 : decode cX11_told 140 = .ok (.aload_n 0, 1) := by decide +kernel
theorem dX11_told_141 : decode cX11_told 141 = .ok (.getfield 56, 3) := by decide +kernel
theorem dX11_told_144 : decode cX11_told 144 = .ok (.getfield 217, 3) := by decide +kernel
theorem dX11_told_147 : decode cX11_told 147 = .ok (.invokevirtual 218, 3) := by decide +kernel
theorem dX11_told_150 : decode cX11_told 150 = .ok (.ireturn, 1) := by decide +kernel
theorem dX11_told_151 : decode cX11_told 151 = .ok (.aload_n 0, 1) := by decide +kernel
theorem dX11_told_152 : decode cX11_told 152 = .ok (.getfield 56, 3) := by decide +kernel
theorem dX11_told_155 : decode cX11_told 155 = .ok (.invokevirtual 222, 3) := by decide +kernel
theorem dX11_told_158 : decode cX11_told 158 = .ok (.ireturn, 1) := by decide +kernel
theorem dX11_told_159 : decode cX11_told 159 = .ok (.aload_n 0, 1) := by decide +kernel
theorem dX11_told_160 : decode cX11_told 160 = .ok (.getfield 39, 3) := by decide +kernel
theorem dX11_told_163 : decode cX11_told 163 = .ok (.getfield 177, 3) := by decide +kernel
theorem dX11_told_166 : decode cX11_told 166 = .ok (.ireturn, 1) := by decide +kernel
theorem dX11_told_167 : decode cX11_told 167 = .ok (.aload_n 0, 1) := by decide +kernel
theorem dX11_told_168 : decode cX11_told 168 = .ok (.getfield 49, 3) := by decide +kernel
theorem dX11_told_171 : decode cX11_told 171 = .ok (.getfield 143, 3) := by decide +kernel
theorem dX11_told_174 : decode cX11_told 174 = .ok (.ireturn, 1) := by decide +kernel
theorem dX11_told_175 : decode cX11_told 175 = .ok (.aload_n 0, 1) := by decide +kernel
theorem dX11_told_176 : decode cX11_told 176 = .ok (.getfield 56, 3) := by decide +kernel
theorem dX11_told_179 : decode cX11_told 179 = .ok (.getfield 217, 3) := by decide +kernel
theorem dX11_told_182 : decode cX11_told 182 = .ok (.ireturn, 1) := by decide +kernel
theorem dX11_piece_0 : decode cX11_piece 0 = .ok (.aload_n 0, 1) := by decide +kernel
theorem dX11_piece_1 : decode cX11_piece 1 = .ok (.iload_n 1, 1) := by decide +kernel
theorem dX11_piece_2 : decode cX11_piece 2 = .ok (.invokevirtual 225, 3) := by decide +kernel
theorem dX11_piece_5 : decode cX11_piece 5 = .ok (.aload_n 0, 1) := by decide +kernel
theorem dX11_piece_6 : decode cX11_piece 6 = .ok (.iload_n 2, 1) := by decide +kernel
theorem dX11_piece_7 : decode cX11_piece 7 = .ok (.iconst 0, 1) := by decide +kernel
theorem dX11_piece_8 : decode cX11_piece 8 = .ok (.bipush 7, 2) := by decide +kernel
theorem dX11_piece_10 : decode cX11_piece 10 = .ok (.invokestatic 189, 3) := by decide +kernel
theorem dX11_piece_13 : decode cX11_piece 13 = .ok (.invokevirtual 193, 3) := by decide +kernel
theorem dX11_piece_16 : decode cX11_piece 16 = .ok (.iload_n 2, 1) := by decide +kernel
theorem dX11_piece_17 : decode cX11_piece 17 = .ok (.tableswitch 135 0 6 #[43, 55, 71, 87, 99, 111, 123], 43) := by decide +kernel
theorem dX11_piece_60 : decode cX11_piece 60 = .ok (.aload_n 0, 1) := by decide +kernel
theorem dX11_piece_61 : decode cX11_piece 61 = .ok (.getfield 19, 3) := by decide +kernel
theorem dX11_piece_64 : decode cX11_piece 64 = .ok (.getfield 228, 3) := by decide +kernel
theorem dX11_piece_67 : decode cX11_piece 67 = .ok (.iload_n 1, 1) := by decide +kernel
theorem dX11_piece_68 : decode cX11_piece 68 = .ok (.invokestatic 232, 3) := by decide +kernel
theorem dX11_piece_71 : decode cX11_piece 71 = .ok (.ireturn, 1) := by decide +kernel
theorem dX11_piece_72 : decode cX11_piece 72 = .ok (.aload_n 0, 1) := by decide +kernel
theorem dX11_piece_73 : decode cX11_piece 73 = .ok (.getfield 19, 3) := by decide +kernel
theorem dX11_piece_76 : decode cX11_piece 76 = .ok (.aload_n 0, 1) := by decide +kernel
theorem dX11_piece_77 : decode cX11_piece 77 = .ok (.getfield 56, 3) := by decide +kernel
theorem dX11_piece_80 : decode cX11_piece 80 = .ok (.iload_n 1, 1) := by decide +kernel
theorem dX11_piece_81 : decode cX11_piece 81 = .ok (.invokevirtual 236, 3) := by decide +kernel
theorem dX11_piece_84 : decode cX11_piece 84 = .ok (.invokevirtual 240, 3) := by decide +kernel
theorem dX11_piece_87 : decode cX11_piece 87 = .ok (.ireturn, 1) := by decide +kernel
theorem dX11_piece_88 : decode cX11_piece 88 = .ok (.aload_n 0, 1) := by decide +kernel
theorem dX11_piece_89 : decode cX11_piece 89 = .ok (.getfield 19, 3) := by decide +kernel
theorem dX11_piece_92 : decode cX11_piece 92 = .ok (.aload_n 0, 1) := by decide +kernel
theorem dX11_piece_93 : decode cX11_piece 93 = .ok (.getfield 56, 3) := by decide +kernel
theorem dX11_piece_96 : decode cX11_piece 96 = .ok (.iload_n 1, 1) := by decide +kernel
theorem dX11_piece_97 : decode cX11_piece 97 = .ok (.invokevirtual 236, 3) := by decide +kernel
theorem dX11_piece_100 : decode cX11_piece 100 = .ok (.invokevirtual 243, 3) := by decide +kernel
theorem dX11_piece_103 : decode cX11_piece 103 = .ok (.ireturn, 1) := by decide +kernel
theorem dX11_piece_104 : decode cX11_piece 104 = .ok (.aload_n 0, 1) := by decide +kernel
theorem dX11_piece_105 : decode cX11_piece 105 = .ok (.getfield 19, 3) := by decide +kernel
theorem dX11_piece_108 : decode cX11_piece 108 = .ok (.getfield 246, 3) := by decide +kernel
theorem dX11_piece_111 : decode cX11_piece 111 = .ok (.iload_n 1, 1) := by decide +kernel
theorem dX11_piece_112 : decode cX11_piece 112 = .ok (.invokestatic 232, 3) := by decide +kernel
theorem dX11_piece_115 : decode cX11_piece 115 = .ok (.ireturn, 1) := by decide +kernel
theorem dX11_piece_116 : decode cX11_piece 116 = .ok (.aload_n 0, 1) := by decide +kernel
theorem dX11_piece_117 : decode cX11_piece 117 = .ok (.getfield 56, 3) := by decide +kernel
theorem dX11_piece_120 : decode cX11_piece 120 = .ok (.getfield 249, 3) := by decide +kernel
theorem dX11_piece_123 : decode cX11_piece 123 = .ok (.iload_n 1, 1) := by decide +kernel
theorem dX11_piece_124 : decode cX11_piece 124 = .ok (.invokestatic 232, 3) := by decide +kernel
theorem dX11_piece_127 : decode cX11_piece 127 = .ok (.ireturn, 1) := by decide +kernel
theorem dX11_piece_128 : decode cX11_piece 128 = .ok (.aload_n 0, 1) := by decide +kernel
theorem dX11_piece_129 : decode cX11_piece 129 = .ok (.getfield 56, 3) := by decide +kernel
theorem dX11_piece_132 : decode cX11_piece 132 = .ok (.getfield 252, 3) := by decide +kernel
theorem dX11_piece_135 : decode cX11_piece 135 = .ok (.iload_n 1, 1) := by decide +kernel
theorem dX11_piece_136 : decode cX11_piece 136 = .ok (.invokestatic 232, 3) := by decide +kernel
theorem dX11_piece_139 : decode cX11_piece 139 = .ok (.ireturn, 1) := by decide +kernel
theorem dX11_piece_140 : decode cX11_piece 140 = .ok (.aload_n 0, 1) := by decide +kernel
theorem dX11_piece_141 : decode cX11_piece 141 = .ok (.getfield 56, 3) := by decide +kernel
theorem dX11_piece_144 : decode cX11_piece 144 = .ok (.getfield 255, 3) := by decide +kernel
theorem dX11_piece_147 : decode cX11_piece 147 = .ok (.iload_n 1, 1) := by decide +kernel
theorem dX11_piece_148 : decode cX11_piece 148 = .ok (.invokestatic 258, 3) := by decide +kernel
theorem dX11_piece_151 : decode cX11_piece 151 = .ok (.ireturn, 1) := by decide +kernel
theorem dX11_piece_152 : decode cX11_piece 152 = .ok (.aload_n 0, 1) := by decide +kernel
theorem dX11_piece_153 : decode cX11_piece 153 = .ok (.getfield 56, 3) := by decide +kernel
theorem dX11_piece_156 : decode cX11_piece 156 = .ok (.iload_n 1, 1) := by decide +kernel
theorem dX11_piece_157 : decode cX11_piece 157 = .ok (.invokevirtual 262, 3) := by decide +kernel
theorem dX11_piece_160 : decode cX11_piece 160 = .ok (.ireturn, 1) := by decide +kernel
theorem dX11_collar_0 : decode cX11_collar 0 = .ok (.aload_n 0, 1) := by decide +kernel
theorem dX11_collar_1 : decode cX11_collar 1 = .ok (.iload_n 1, 1) := by decide +kernel
theorem dX11_collar_2 : decode cX11_collar 2 = .ok (.iconst 0, 1) := by decide +kernel
theorem dX11_collar_3 : decode cX11_collar 3 = .ok (.aload_n 0, 1) := by decide +kernel
theorem dX11_collar_4 : decode cX11_collar 4 = .ok (.getfield 19, 3) := by decide +kernel
theorem dX11_collar_7 : decode cX11_collar 7 = .ok (.getfield 197, 3) := by decide +kernel
theorem dX11_collar_10 : decode cX11_collar 10 = .ok (.iconst 1, 1) := by decide +kernel
theorem dX11_collar_11 : decode cX11_collar 11 = .ok (.isub, 1) := by decide +kernel
theorem dX11_collar_12 : decode cX11_collar 12 = .ok (.invokestatic 189, 3) := by decide +kernel
theorem dX11_collar_15 : decode cX11_collar 15 = .ok (.invokevirtual 265, 3) := by decide +kernel
theorem dX11_collar_18 : decode cX11_collar 18 = .ok (.aload_n 0, 1) := by decide +kernel
theorem dX11_collar_19 : decode cX11_collar 19 = .ok (.iload_n 2, 1) := by decide +kernel
theorem dX11_collar_20 : decode cX11_collar 20 = .ok (.iconst 0, 1) := by decide +kernel
theorem dX11_collar_21 : decode cX11_collar 21 = .ok (.iconst 1, 1) := by decide +kernel
theorem dX11_collar_22 : decode cX11_collar 22 = .ok (.invokestatic 189, 3) := by decide +kernel
theorem dX11_collar_25 : decode cX11_collar 25 = .ok (.invokevirtual 193, 3) := by decide +kernel
theorem dX11_collar_28 : decode cX11_collar 28 = .ok (.iload_n 2, 1) := by decide +kernel
theorem dX11_collar_29 : decode cX11_collar 29 = .ok (.ifCond .ne 17, 3) := by decide +kernel
theorem dX11_collar_32 : decode cX11_collar 32 = .ok (.aload_n 0, 1) := by decide +kernel
theorem dX11_collar_33 : decode cX11_collar 33 = .ok (.getfield 19, 3) := by decide +kernel
theorem dX11_collar_36 : decode cX11_collar 36 = .ok (.getfield 268, 3) := by decide +kernel
theorem dX11_collar_39 : decode cX11_collar 39 = .ok (.iload_n 1, 1) := by decide +kernel
theorem dX11_collar_40 : decode cX11_collar 40 = .ok (.invokestatic 232, 3) := by decide +kernel
theorem dX11_collar_43 : decode cX11_collar 43 = .ok (.goto 14, 3) := by decide +kernel
theorem dX11_collar_46 : decode cX11_collar 46 = .ok (.aload_n 0, 1) := by decide +kernel
theorem dX11_collar_47 : decode cX11_collar 47 = .ok (.getfield 19, 3) := by decide +kernel
theorem dX11_collar_50 : decode cX11_collar 50 = .ok (.getfield 271, 3) := by decide +kernel
theorem dX11_collar_53 : decode cX11_collar 53 = .ok (.iload_n 1, 1) := by decide +kernel
theorem dX11_collar_54 : decode cX11_collar 54 = .ok (.invokestatic 232, 3) := by decide +kernel
theorem dX11_collar_57 : decode cX11_collar 57 = .ok (.ireturn, 1) := by decide +kernel
theorem dX11_fire_0 : decode cX11_fire 0 = .ok (.aload_n 0, 1) := by decide +kernel
theorem dX11_fire_1 : decode cX11_fire 1 = .ok (.iload_n 1, 1) := by decide +kernel
theorem dX11_fire_2 : decode cX11_fire 2 = .ok (.invokevirtual 274, 3) := by decide +kernel
theorem dX11_fire_5 : decode cX11_fire 5 = .ok (.aload_n 0, 1) := by decide +kernel
theorem dX11_fire_6 : decode cX11_fire 6 = .ok (.iload_n 2, 1) := by decide +kernel
theorem dX11_fire_7 : decode cX11_fire 7 = .ok (.iconst 0, 1) := by decide +kernel
theorem dX11_fire_8 : decode cX11_fire 8 = .ok (.iconst 3, 1) := by decide +kernel
theorem dX11_fire_9 : decode cX11_fire 9 = .ok (.invokestatic 189, 3) := by decide +kernel
theorem dX11_fire_12 : decode cX11_fire 12 = .ok (.invokevirtual 193, 3) := by decide +kernel
theorem dX11_fire_15 : decode cX11_fire 15 = .ok (.iload_n 2, 1) := by decide +kernel
theorem dX11_fire_16 : decode cX11_fire 16 = .ok (.tableswitch 68 0 2 #[28, 40, 52], 28) := by decide +kernel
theorem dX11_fire_44 : decode cX11_fire 44 = .ok (.aload_n 0, 1) := by decide +kernel
theorem dX11_fire_45 : decode cX11_fire 45 = .ok (.getfield 19, 3) := by decide +kernel
theorem dX11_fire_48 : decode cX11_fire 48 = .ok (.getfield 277, 3) := by decide +kernel
theorem dX11_fire_51 : decode cX11_fire 51 = .ok (.iload_n 1, 1) := by decide +kernel
theorem dX11_fire_52 : decode cX11_fire 52 = .ok (.invokestatic 232, 3) := by decide +kernel
theorem dX11_fire_55 : decode cX11_fire 55 = .ok (.ireturn, 1) := by decide +kernel
theorem dX11_fire_56 : decode cX11_fire 56 = .ok (.aload_n 0, 1) := by decide +kernel
theorem dX11_fire_57 : decode cX11_fire 57 = .ok (.getfield 19, 3) := by decide +kernel
theorem dX11_fire_60 : decode cX11_fire 60 = .ok (.getfield 280, 3) := by decide +kernel
theorem dX11_fire_63 : decode cX11_fire 63 = .ok (.iload_n 1, 1) := by decide +kernel
theorem dX11_fire_64 : decode cX11_fire 64 = .ok (.invokestatic 232, 3) := by decide +kernel
theorem dX11_fire_67 : decode cX11_fire 67 = .ok (.ireturn, 1) := by decide +kernel
theorem dX11_fire_68 : decode cX11_fire 68 = .ok (.aload_n 0, 1) := by decide +kernel
theorem dX11_fire_69 : decode cX11_fire 69 = .ok (.getfield 72, 3) := by decide +kernel
theorem dX11_fire_72 : decode cX11_fire 72 = .ok (.aload_n 0, 1) := by decide +kernel
theorem dX11_fire_73 : decode cX11_fire 73 = .ok (.getfield 56, 3) := by decide +kernel
theorem dX11_fire_76 : decode cX11_fire 76 = .ok (.invokevirtual 283, 3) := by decide +kernel
theorem dX11_fire_79 : decode cX11_fire 79 = .ok (.iload_n 1, 1) := by decide +kernel
theorem dX11_fire_80 : decode cX11_fire 80 = .ok (.invokestatic 258, 3) := by decide +kernel
theorem dX11_fire_83 : decode cX11_fire 83 = .ok (.ireturn, 1) := by decide +kernel
theorem dX11_fire_84 : decode cX11_fire 84 = .ok (.aload_n 0, 1) := by decide +kernel
theorem dX11_fire_85 : decode cX11_fire 85 = .ok (.getfield 56, 3) := by decide +kernel
theorem dX11_fire_88 : decode cX11_fire 88 = .ok (.getfield 287, 3) := by decide +kernel
theorem dX11_fire_91 : decode cX11_fire 91 = .ok (.iload_n 1, 1) := by decide +kernel
theorem dX11_fire_92 : decode cX11_fire 92 = .ok (.invokestatic 232, 3) := by decide +kernel
theorem dX11_fire_95 : decode cX11_fire 95 = .ok (.ireturn, 1) := by decide +kernel
theorem dX11_row_0 : decode cX11_row 0 = .ok (.aload_n 0, 1) := by decide +kernel
theorem dX11_row_1 : decode cX11_row 1 = .ok (.iload_n 1, 1) := by decide +kernel
theorem dX11_row_2 : decode cX11_row 2 = .ok (.ifCond .lt 7, 3) := by decide +kernel
theorem dX11_row_5 : decode cX11_row 5 = .ok (.iconst 1, 1) := by decide +kernel
theorem dX11_row_6 : decode cX11_row 6 = .ok (.goto 4, 3) := by decide +kernel
theorem dX11_row_9 : decode cX11_row 9 = .ok (.iconst 0, 1) := by decide +kernel
theorem dX11_row_10 : decode cX11_row 10 = .ok (.invokevirtual 193, 3) := by decide +kernel
theorem dX11_row_13 : decode cX11_row 13 = .ok (.iload_n 1, 1) := by decide +kernel
theorem dX11_row_14 : decode cX11_row 14 = .ok (.aload_n 0, 1) := by decide +kernel
theorem dX11_row_15 : decode cX11_row 15 = .ok (.getfield 56, 3) := by decide +kernel
theorem dX11_row_18 : decode cX11_row 18 = .ok (.getfield 206, 3) := by decide +kernel
theorem dX11_row_21 : decode cX11_row 21 = .ok (.if_icmp .ge 17, 3) := by decide +kernel
theorem dX11_row_24 : decode cX11_row 24 = .ok (.aload_n 0, 1) := by decide +kernel
theorem dX11_row_25 : decode cX11_row 25 = .ok (.getfield 56, 3) := by decide +kernel
theorem dX11_row_28 : decode cX11_row 28 = .ok (.getfield 290, 3) := by decide +kernel
theorem dX11_row_31 : decode cX11_row 31 = .ok (.iload_n 1, 1) := by decide +kernel
theorem dX11_row_32 : decode cX11_row 32 = .ok (.invokestatic 232, 3) := by decide +kernel
theorem dX11_row_35 : decode cX11_row 35 = .ok (.goto 4, 3) := by decide +kernel
theorem dX11_row_38 : decode cX11_row 38 = .ok (.iconst (-1), 1) := by decide +kernel
theorem dX11_row_39 : decode cX11_row 39 = .ok (.ireturn, 1) := by decide +kernel
theorem dX11_behind_0 : decode cX11_behind 0 = .ok (.aload_n 0, 1) := by decide +kernel
theorem dX11_behind_1 : decode cX11_behind 1 = .ok (.iload_n 1, 1) := by decide +kernel
theorem dX11_behind_2 : decode cX11_behind 2 = .ok (.ifCond .lt 7, 3) := by decide +kernel
theorem dX11_behind_5 : decode cX11_behind 5 = .ok (.iconst 1, 1) := by decide +kernel
theorem dX11_behind_6 : decode cX11_behind 6 = .ok (.goto 4, 3) := by decide +kernel
theorem dX11_behind_9 : decode cX11_behind 9 = .ok (.iconst 0, 1) := by decide +kernel
theorem dX11_behind_10 : decode cX11_behind 10 = .ok (.invokevirtual 193, 3) := by decide +kernel
theorem dX11_behind_13 : decode cX11_behind 13 = .ok (.iload_n 1, 1) := by decide +kernel
theorem dX11_behind_14 : decode cX11_behind 14 = .ok (.aload_n 0, 1) := by decide +kernel
theorem dX11_behind_15 : decode cX11_behind 15 = .ok (.getfield 56, 3) := by decide +kernel
theorem dX11_behind_18 : decode cX11_behind 18 = .ok (.getfield 206, 3) := by decide +kernel
theorem dX11_behind_21 : decode cX11_behind 21 = .ok (.if_icmp .lt 5, 3) := by decide +kernel
theorem dX11_behind_24 : decode cX11_behind 24 = .ok (.iconst (-1), 1) := by decide +kernel
theorem dX11_behind_25 : decode cX11_behind 25 = .ok (.ireturn, 1) := by decide +kernel
theorem dX11_behind_26 : decode cX11_behind 26 = .ok (.aload_n 0, 1) := by decide +kernel
theorem dX11_behind_27 : decode cX11_behind 27 = .ok (.getfield 72, 3) := by decide +kernel
theorem dX11_behind_30 : decode cX11_behind 30 = .ok (.aload_n 0, 1) := by decide +kernel
theorem dX11_behind_31 : decode cX11_behind 31 = .ok (.getfield 56, 3) := by decide +kernel
theorem dX11_behind_34 : decode cX11_behind 34 = .ok (.aload_n 0, 1) := by decide +kernel
theorem dX11_behind_35 : decode cX11_behind 35 = .ok (.getfield 56, 3) := by decide +kernel
theorem dX11_behind_38 : decode cX11_behind 38 = .ok (.getfield 217, 3) := by decide +kernel
theorem dX11_behind_41 : decode cX11_behind 41 = .ok (.invokevirtual 218, 3) := by decide +kernel
theorem dX11_behind_44 : decode cX11_behind 44 = .ok (.pop, 1) := by decide +kernel
theorem dX11_behind_45 : decode cX11_behind 45 = .ok (.aload_n 0, 1) := by decide +kernel
theorem dX11_behind_46 : decode cX11_behind 46 = .ok (.getfield 72, 3) := by decide +kernel
theorem dX11_behind_49 : decode cX11_behind 49 = .ok (.getfield 293, 3) := by decide +kernel
theorem dX11_behind_52 : decode cX11_behind 52 = .ok (.iload_n 1, 1) := by decide +kernel
theorem dX11_behind_53 : decode cX11_behind 53 = .ok (.invokestatic 232, 3) := by decide +kernel
theorem dX11_behind_56 : decode cX11_behind 56 = .ok (.ireturn, 1) := by decide +kernel
theorem dX11_would_0 : decode cX11_would 0 = .ok (.aload_n 0, 1) := by decide +kernel
theorem dX11_would_1 : decode cX11_would 1 = .ok (.iload_n 1, 1) := by decide +kernel
theorem dX11_would_2 : decode cX11_would 2 = .ok (.iconst 0, 1) := by decide +kernel
theorem dX11_would_3 : decode cX11_would 3 = .ok (.bipush 99, 2) := by decide +kernel
theorem dX11_would_5 : decode cX11_would 5 = .ok (.invokestatic 189, 3) := by decide +kernel
theorem dX11_would_8 : decode cX11_would 8 = .ok (.ifCond .eq 27, 3) := by decide +kernel
theorem dX11_would_11 : decode cX11_would 11 = .ok (.iload_n 2, 1) := by decide +kernel
theorem dX11_would_12 : decode cX11_would 12 = .ok (.iconst 0, 1) := by decide +kernel
theorem dX11_would_13 : decode cX11_would 13 = .ok (.bipush 9, 2) := by decide +kernel
theorem dX11_would_15 : decode cX11_would 15 = .ok (.invokestatic 189, 3) := by decide +kernel
theorem dX11_would_18 : decode cX11_would 18 = .ok (.ifCond .eq 17, 3) := by decide +kernel
theorem dX11_would_21 : decode cX11_would 21 = .ok (.iload_n 3, 1) := by decide +kernel
theorem dX11_would_22 : decode cX11_would 22 = .ok (.iconst 1, 1) := by decide +kernel
theorem dX11_would_23 : decode cX11_would 23 = .ok (.bipush 30, 2) := by decide +kernel
theorem dX11_would_25 : decode cX11_would 25 = .ok (.invokestatic 189, 3) := by decide +kernel
theorem dX11_would_28 : decode cX11_would 28 = .ok (.ifCond .eq 7, 3) := by decide +kernel
theorem dX11_would_31 : decode cX11_would 31 = .ok (.iconst 1, 1) := by decide +kernel
theorem dX11_would_32 : decode cX11_would 32 = .ok (.goto 4, 3) := by decide +kernel
theorem dX11_would_35 : decode cX11_would 35 = .ok (.iconst 0, 1) := by decide +kernel
theorem dX11_would_36 : decode cX11_would 36 = .ok (.invokevirtual 193, 3) := by decide +kernel
theorem dX11_would_39 : decode cX11_would 39 = .ok (.aload_n 0, 1) := by decide +kernel
theorem dX11_would_40 : decode cX11_would 40 = .ok (.iload 4, 2) := by decide +kernel
theorem dX11_would_42 : decode cX11_would 42 = .ok (.iconst 0, 1) := by decide +kernel
theorem dX11_would_43 : decode cX11_would 43 = .ok (.bipush 9, 2) := by decide +kernel
theorem dX11_would_45 : decode cX11_would 45 = .ok (.invokestatic 189, 3) := by decide +kernel
theorem dX11_would_48 : decode cX11_would 48 = .ok (.ifCond .eq 28, 3) := by decide +kernel
theorem dX11_would_51 : decode cX11_would 51 = .ok (.iload 5, 2) := by decide +kernel
theorem dX11_would_53 : decode cX11_would 53 = .ok (.iconst 0, 1) := by decide +kernel
theorem dX11_would_54 : decode cX11_would 54 = .ok (.bipush 9, 2) := by decide +kernel
theorem dX11_would_56 : decode cX11_would 56 = .ok (.invokestatic 189, 3) := by decide +kernel
theorem dX11_would_59 : decode cX11_would 59 = .ok (.ifCond .eq 17, 3) := by decide +kernel
theorem dX11_would_62 : decode cX11_would 62 = .ok (.iload 6, 2) := by decide +kernel
theorem dX11_would_64 : decode cX11_would 64 = .ok (.iconst 0, 1) := by decide +kernel
theorem dX11_would_65 : decode cX11_would 65 = .ok (.iconst 5, 1) := by decide +kernel
theorem dX11_would_66 : decode cX11_would 66 = .ok (.invokestatic 189, 3) := by decide +kernel
theorem dX11_would_69 : decode cX11_would 69 = .ok (.ifCond .eq 7, 3) := by decide +kernel
theorem dX11_would_72 : decode cX11_would 72 = .ok (.iconst 1, 1) := by decide +kernel
theorem dX11_would_73 : decode cX11_would 73 = .ok (.goto 4, 3) := by decide +kernel
theorem dX11_would_76 : decode cX11_would 76 = .ok (.iconst 0, 1) := by decide +kernel
theorem dX11_would_77 : decode cX11_would 77 = .ok (.invokevirtual 193, 3) := by decide +kernel
theorem dX11_would_80 : decode cX11_would 80 = .ok (.aload_n 0, 1) := by decide +kernel
theorem dX11_would_81 : decode cX11_would 81 = .ok (.iload 7, 2) := by decide +kernel
theorem dX11_would_83 : decode cX11_would 83 = .ok (.iconst 0, 1) := by decide +kernel
theorem dX11_would_84 : decode cX11_would 84 = .ok (.iconst 1, 1) := by decide +kernel
theorem dX11_would_85 : decode cX11_would 85 = .ok (.invokestatic 189, 3) := by decide +kernel
theorem dX11_would_88 : decode cX11_would 88 = .ok (.ifCond .eq 28, 3) := by decide +kernel
theorem dX11_would_91 : decode cX11_would 91 = .ok (.iload 8, 2) := by decide +kernel
theorem dX11_would_93 : decode cX11_would 93 = .ok (.iconst 0, 1) := by decide +kernel
theorem dX11_would_94 : decode cX11_would 94 = .ok (.bipush 99, 2) := by decide +kernel
theorem dX11_would_96 : decode cX11_would 96 = .ok (.invokestatic 189, 3) := by decide +kernel
theorem dX11_would_99 : decode cX11_would 99 = .ok (.ifCond .eq 17, 3) := by decide +kernel
theorem dX11_would_102 : decode cX11_would 102 = .ok (.iload 9, 2) := by decide +kernel
theorem dX11_would_104 : decode cX11_would 104 = .ok (.iconst 0, 1) := by decide +kernel
theorem dX11_would_105 : decode cX11_would 105 = .ok (.iconst 5, 1) := by decide +kernel
theorem dX11_would_106 : decode cX11_would 106 = .ok (.invokestatic 189, 3) := by decide +kernel
theorem dX11_would_109 : decode cX11_would 109 = .ok (.ifCond .eq 7, 3) := by decide +kernel
theorem dX11_would_112 : decode cX11_would 112 = .ok (.iconst 1, 1) := by decide +kernel
theorem dX11_would_113 : decode cX11_would 113 = .ok (.goto 4, 3) := by decide +kernel
theorem dX11_would_116 : decode cX11_would 116 = .ok (.iconst 0, 1) := by decide +kernel
theorem dX11_would_117 : decode cX11_would 117 = .ok (.invokevirtual 193, 3) := by decide +kernel
theorem dX11_would_120 : decode cX11_would 120 = .ok (.aload_n 0, 1) := by decide +kernel
theorem dX11_would_121 : decode cX11_would 121 = .ok (.getfield 29, 3) := by decide +kernel
theorem dX11_would_124 : decode cX11_would 124 = .ok (.iload_n 2, 1) := by decide +kernel
theorem dX11_would_125 : decode cX11_would 125 = .ok (.iload_n 3, 1) := by decide +kernel
theorem dX11_would_126 : decode cX11_would 126 = .ok (.iload 7, 2) := by decide +kernel
theorem dX11_would_128 : decode cX11_would 128 = .ok (.iload 9, 2) := by decide +kernel
theorem dX11_would_130 : decode cX11_would 130 = .ok (.invokevirtual 296, 3) := by decide +kernel
theorem dX11_would_133 : decode cX11_would 133 = .ok (.aload_n 0, 1) := by decide +kernel
theorem dX11_would_134 : decode cX11_would 134 = .ok (.getfield 29, 3) := by decide +kernel
theorem dX11_would_137 : decode cX11_would 137 = .ok (.iload_n 1, 1) := by decide +kernel
theorem dX11_would_138 : decode cX11_would 138 = .ok (.iload 4, 2) := by decide +kernel
theorem dX11_would_140 : decode cX11_would 140 = .ok (.iload 5, 2) := by decide +kernel
theorem dX11_would_142 : decode cX11_would 142 = .ok (.iload 6, 2) := by decide +kernel
theorem dX11_would_144 : decode cX11_would 144 = .ok (.iload 8, 2) := by decide +kernel
theorem dX11_would_146 : decode cX11_would 146 = .ok (.invokevirtual 300, 3) := by decide +kernel
theorem dX11_would_149 : decode cX11_would 149 = .ok (.aload_n 0, 1) := by decide +kernel
theorem dX11_would_150 : decode cX11_would 150 = .ok (.getfield 29, 3) := by decide +kernel
theorem dX11_would_153 : decode cX11_would 153 = .ok (.invokevirtual 304, 3) := by decide +kernel
theorem dX11_would_156 : decode cX11_would 156 = .ok (.ireturn, 1) := by decide +kernel
theorem dX11_fits_0 : decode cX11_fits 0 = .ok (.aload_n 0, 1) := by decide +kernel
theorem dX11_fits_1 : decode cX11_fits 1 = .ok (.iload_n 1, 1) := by decide +kernel
theorem dX11_fits_2 : decode cX11_fits 2 = .ok (.invokevirtual 306, 3) := by decide +kernel
theorem dX11_fits_5 : decode cX11_fits 5 = .ok (.aload_n 0, 1) := by decide +kernel
theorem dX11_fits_6 : decode cX11_fits 6 = .ok (.iload_n 2, 1) := by decide +kernel
theorem dX11_fits_7 : decode cX11_fits 7 = .ok (.invokevirtual 306, 3) := by decide +kernel
theorem dX11_fits_10 : decode cX11_fits 10 = .ok (.aload_n 0, 1) := by decide +kernel
theorem dX11_fits_11 : decode cX11_fits 11 = .ok (.getfield 19, 3) := by decide +kernel
theorem dX11_fits_14 : decode cX11_fits 14 = .ok (.iload_n 1, 1) := by decide +kernel
theorem dX11_fits_15 : decode cX11_fits 15 = .ok (.iload_n 2, 1) := by decide +kernel
theorem dX11_fits_16 : decode cX11_fits 16 = .ok (.invokevirtual 309, 3) := by decide +kernel
theorem dX11_fits_19 : decode cX11_fits 19 = .ok (.ireturn, 1) := by decide +kernel
theorem dX11_can_0 : decode cX11_can 0 = .ok (.aload_n 0, 1) := by decide +kernel
theorem dX11_can_1 : decode cX11_can 1 = .ok (.iload_n 1, 1) := by decide +kernel
theorem dX11_can_2 : decode cX11_can 2 = .ok (.invokevirtual 225, 3) := by decide +kernel
theorem dX11_can_5 : decode cX11_can 5 = .ok (.aload_n 0, 1) := by decide +kernel
theorem dX11_can_6 : decode cX11_can 6 = .ok (.getfield 56, 3) := by decide +kernel
theorem dX11_can_9 : decode cX11_can 9 = .ok (.aload_n 0, 1) := by decide +kernel
theorem dX11_can_10 : decode cX11_can 10 = .ok (.getfield 19, 3) := by decide +kernel
theorem dX11_can_13 : decode cX11_can 13 = .ok (.aload_n 0, 1) := by decide +kernel
theorem dX11_can_14 : decode cX11_can 14 = .ok (.getfield 56, 3) := by decide +kernel
theorem dX11_can_17 : decode cX11_can 17 = .ok (.iload_n 1, 1) := by decide +kernel
theorem dX11_can_18 : decode cX11_can 18 = .ok (.invokevirtual 236, 3) := by decide +kernel
theorem dX11_can_21 : decode cX11_can 21 = .ok (.invokevirtual 313, 3) := by decide +kernel
theorem dX11_can_24 : decode cX11_can 24 = .ok (.ireturn, 1) := by decide +kernel
theorem dX11_ahead_0 : decode cX11_ahead 0 = .ok (.aload_n 0, 1) := by decide +kernel
theorem dX11_ahead_1 : decode cX11_ahead 1 = .ok (.iload_n 1, 1) := by decide +kernel
theorem dX11_ahead_2 : decode cX11_ahead 2 = .ok (.iconst 0, 1) := by decide +kernel
theorem dX11_ahead_3 : decode cX11_ahead 3 = .ok (.bipush 99, 2) := by decide +kernel
theorem dX11_ahead_5 : decode cX11_ahead 5 = .ok (.invokestatic 189, 3) := by decide +kernel
theorem dX11_ahead_8 : decode cX11_ahead 8 = .ok (.invokevirtual 193, 3) := by decide +kernel
theorem dX11_ahead_11 : decode cX11_ahead 11 = .ok (.aload_n 0, 1) := by decide +kernel
theorem dX11_ahead_12 : decode cX11_ahead 12 = .ok (.getfield 97, 3) := by decide +kernel
theorem dX11_ahead_15 : decode cX11_ahead 15 = .ok (.aload_n 0, 1) := by decide +kernel
theorem dX11_ahead_16 : decode cX11_ahead 16 = .ok (.getfield 56, 3) := by decide +kernel
theorem dX11_ahead_19 : decode cX11_ahead 19 = .ok (.iload_n 1, 1) := by decide +kernel
theorem dX11_ahead_20 : decode cX11_ahead 20 = .ok (.invokevirtual 317, 3) := by decide +kernel
theorem dX11_ahead_23 : decode cX11_ahead 23 = .ok (.ireturn, 1) := by decide +kernel
theorem dX11_chain_0 : decode cX11_chain 0 = .ok (.aload_n 0, 1) := by decide +kernel
theorem dX11_chain_1 : decode cX11_chain 1 = .ok (.iload_n 1, 1) := by decide +kernel
theorem dX11_chain_2 : decode cX11_chain 2 = .ok (.iconst 0, 1) := by decide +kernel
theorem dX11_chain_3 : decode cX11_chain 3 = .ok (.iconst 1, 1) := by decide +kernel
theorem dX11_chain_4 : decode cX11_chain 4 = .ok (.invokestatic 189, 3) := by decide +kernel
theorem dX11_chain_7 : decode cX11_chain 7 = .ok (.invokevirtual 193, 3) := by decide +kernel
theorem dX11_chain_10 : decode cX11_chain 10 = .ok (.aload_n 0, 1) := by decide +kernel
theorem dX11_chain_11 : decode cX11_chain 11 = .ok (.getfield 81, 3) := by decide +kernel
theorem dX11_chain_14 : decode cX11_chain 14 = .ok (.invokevirtual 320, 3) := by decide +kernel
theorem dX11_chain_17 : decode cX11_chain 17 = .ok (.iload_n 1, 1) := by decide +kernel
theorem dX11_chain_18 : decode cX11_chain 18 = .ok (.ifCond .ne 13, 3) := by decide +kernel
theorem dX11_chain_21 : decode cX11_chain 21 = .ok (.aload_n 0, 1) := by decide +kernel
theorem dX11_chain_22 : decode cX11_chain 22 = .ok (.getfield 81, 3) := by decide +kernel
theorem dX11_chain_25 : decode cX11_chain 25 = .ok (.getfield 323, 3) := by decide +kernel
theorem dX11_chain_28 : decode cX11_chain 28 = .ok (.goto 10, 3) := by decide +kernel
theorem dX11_chain_31 : decode cX11_chain 31 = .ok (.aload_n 0, 1) := by decide +kernel
theorem dX11_chain_32 : decode cX11_chain 32 = .ok (.getfield 81, 3) := by decide +kernel
theorem dX11_chain_35 : decode cX11_chain 35 = .ok (.getfield 326, 3) := by decide +kernel
theorem dX11_chain_38 : decode cX11_chain 38 = .ok (.ireturn, 1) := by decide +kernel
theorem dX11_chained_0 : decode cX11_chained 0 = .ok (.aload_n 0, 1) := by decide +kernel
theorem dX11_chained_1 : decode cX11_chained 1 = .ok (.iload_n 1, 1) := by decide +kernel
theorem dX11_chained_2 : decode cX11_chained 2 = .ok (.ifCond .lt 7, 3) := by decide +kernel
theorem dX11_chained_5 : decode cX11_chained 5 = .ok (.iconst 1, 1) := by decide +kernel
theorem dX11_chained_6 : decode cX11_chained 6 = .ok (.goto 4, 3) := by decide +kernel
theorem dX11_chained_9 : decode cX11_chained 9 = .ok (.iconst 0, 1) := by decide +kernel
theorem dX11_chained_10 : decode cX11_chained 10 = .ok (.invokevirtual 193, 3) := by decide +kernel
theorem dX11_chained_13 : decode cX11_chained 13 = .ok (.aload_n 0, 1) := by decide +kernel
theorem dX11_chained_14 : decode cX11_chained 14 = .ok (.getfield 81, 3) := by decide +kernel
theorem dX11_chained_17 : decode cX11_chained 17 = .ok (.invokevirtual 320, 3) := by decide +kernel
theorem dX11_chained_20 : decode cX11_chained 20 = .ok (.iload_n 1, 1) := by decide +kernel
theorem dX11_chained_21 : decode cX11_chained 21 = .ok (.aload_n 0, 1) := by decide +kernel
theorem dX11_chained_22 : decode cX11_chained 22 = .ok (.getfield 81, 3) := by decide +kernel
theorem dX11_chained_25 : decode cX11_chained 25 = .ok (.getfield 326, 3) := by decide +kernel
theorem dX11_chained_28 : decode cX11_chained 28 = .ok (.if_icmp .ge 17, 3) := by decide +kernel
theorem dX11_chained_31 : decode cX11_chained 31 = .ok (.aload_n 0, 1) := by decide +kernel
theorem dX11_chained_32 : decode cX11_chained 32 = .ok (.getfield 81, 3) := by decide +kernel
theorem dX11_chained_35 : decode cX11_chained 35 = .ok (.getfield 329, 3) := by decide +kernel
theorem dX11_chained_38 : decode cX11_chained 38 = .ok (.iload_n 1, 1) := by decide +kernel
theorem dX11_chained_39 : decode cX11_chained 39 = .ok (.invokestatic 232, 3) := by decide +kernel
theorem dX11_chained_42 : decode cX11_chained 42 = .ok (.goto 4, 3) := by decide +kernel
theorem dX11_chained_45 : decode cX11_chained 45 = .ok (.iconst (-1), 1) := by decide +kernel
theorem dX11_chained_46 : decode cX11_chained 46 = .ok (.ireturn, 1) := by decide +kernel
theorem dX11_brief_0 : decode cX11_brief 0 = .ok (.aload_n 0, 1) := by decide +kernel
theorem dX11_brief_1 : decode cX11_brief 1 = .ok (.iload_n 1, 1) := by decide +kernel
theorem dX11_brief_2 : decode cX11_brief 2 = .ok (.invokevirtual 274, 3) := by decide +kernel
theorem dX11_brief_5 : decode cX11_brief 5 = .ok (.aload_n 0, 1) := by decide +kernel
theorem dX11_brief_6 : decode cX11_brief 6 = .ok (.getfield 81, 3) := by decide +kernel
theorem dX11_brief_9 : decode cX11_brief 9 = .ok (.aload_n 0, 1) := by decide +kernel
theorem dX11_brief_10 : decode cX11_brief 10 = .ok (.getfield 56, 3) := by decide +kernel
theorem dX11_brief_13 : decode cX11_brief 13 = .ok (.iload_n 1, 1) := by decide +kernel
theorem dX11_brief_14 : decode cX11_brief 14 = .ok (.invokevirtual 332, 3) := by decide +kernel
theorem dX11_brief_17 : decode cX11_brief 17 = .ok (.aload_n 0, 1) := by decide +kernel
theorem dX11_brief_18 : decode cX11_brief 18 = .ok (.getfield 81, 3) := by decide +kernel
theorem dX11_brief_21 : decode cX11_brief 21 = .ok (.getfield 336, 3) := by decide +kernel
theorem dX11_brief_24 : decode cX11_brief 24 = .ok (.ireturn, 1) := by decide +kernel
theorem dX11_briefly_0 : decode cX11_briefly 0 = .ok (.aload_n 0, 1) := by decide +kernel
theorem dX11_briefly_1 : decode cX11_briefly 1 = .ok (.iload_n 1, 1) := by decide +kernel
theorem dX11_briefly_2 : decode cX11_briefly 2 = .ok (.invokevirtual 274, 3) := by decide +kernel
theorem dX11_briefly_5 : decode cX11_briefly 5 = .ok (.aload_n 0, 1) := by decide +kernel
theorem dX11_briefly_6 : decode cX11_briefly 6 = .ok (.iload_n 2, 1) := by decide +kernel
theorem dX11_briefly_7 : decode cX11_briefly 7 = .ok (.ifCond .lt 7, 3) := by decide +kernel
theorem dX11_briefly_10 : decode cX11_briefly 10 = .ok (.iconst 1, 1) := by decide +kernel
theorem dX11_briefly_11 : decode cX11_briefly 11 = .ok (.goto 4, 3) := by decide +kernel
theorem dX11_briefly_14 : decode cX11_briefly 14 = .ok (.iconst 0, 1) := by decide +kernel
theorem dX11_briefly_15 : decode cX11_briefly 15 = .ok (.invokevirtual 193, 3) := by decide +kernel
theorem dX11_briefly_18 : decode cX11_briefly 18 = .ok (.aload_n 0, 1) := by decide +kernel
theorem dX11_briefly_19 : decode cX11_briefly 19 = .ok (.getfield 81, 3) := by decide +kernel
theorem dX11_briefly_22 : decode cX11_briefly 22 = .ok (.aload_n 0, 1) := by decide +kernel
theorem dX11_briefly_23 : decode cX11_briefly 23 = .ok (.getfield 56, 3) := by decide +kernel
theorem dX11_briefly_26 : decode cX11_briefly 26 = .ok (.iload_n 1, 1) := by decide +kernel
theorem dX11_briefly_27 : decode cX11_briefly 27 = .ok (.invokevirtual 332, 3) := by decide +kernel
theorem dX11_briefly_30 : decode cX11_briefly 30 = .ok (.iload_n 2, 1) := by decide +kernel
theorem dX11_briefly_31 : decode cX11_briefly 31 = .ok (.aload_n 0, 1) := by decide +kernel
theorem dX11_briefly_32 : decode cX11_briefly 32 = .ok (.getfield 81, 3) := by decide +kernel
theorem dX11_briefly_35 : decode cX11_briefly 35 = .ok (.getfield 336, 3) := by decide +kernel
theorem dX11_briefly_38 : decode cX11_briefly 38 = .ok (.if_icmp .ge 17, 3) := by decide +kernel
theorem dX11_briefly_41 : decode cX11_briefly 41 = .ok (.aload_n 0, 1) := by decide +kernel
theorem dX11_briefly_42 : decode cX11_briefly 42 = .ok (.getfield 81, 3) := by decide +kernel
theorem dX11_briefly_45 : decode cX11_briefly 45 = .ok (.getfield 339, 3) := by decide +kernel
theorem dX11_briefly_48 : decode cX11_briefly 48 = .ok (.iload_n 2, 1) := by decide +kernel
theorem dX11_briefly_49 : decode cX11_briefly 49 = .ok (.invokestatic 232, 3) := by decide +kernel
theorem dX11_briefly_52 : decode cX11_briefly 52 = .ok (.goto 4, 3) := by decide +kernel
theorem dX11_briefly_55 : decode cX11_briefly 55 = .ok (.iconst (-1), 1) := by decide +kernel
theorem dX11_briefly_56 : decode cX11_briefly 56 = .ok (.ireturn, 1) := by decide +kernel
theorem dX11_joiner_0 : decode cX11_joiner 0 = .ok (.aload_n 0, 1) := by decide +kernel
theorem dX11_joiner_1 : decode cX11_joiner 1 = .ok (.iload_n 1, 1) := by decide +kernel
theorem dX11_joiner_2 : decode cX11_joiner 2 = .ok (.iconst 0, 1) := by decide +kernel
theorem dX11_joiner_3 : decode cX11_joiner 3 = .ok (.iconst 1, 1) := by decide +kernel
theorem dX11_joiner_4 : decode cX11_joiner 4 = .ok (.invokestatic 189, 3) := by decide +kernel
theorem dX11_joiner_7 : decode cX11_joiner 7 = .ok (.invokevirtual 193, 3) := by decide +kernel
theorem dX11_joiner_10 : decode cX11_joiner 10 = .ok (.aload_n 0, 1) := by decide +kernel
theorem dX11_joiner_11 : decode cX11_joiner 11 = .ok (.getfield 81, 3) := by decide +kernel
theorem dX11_joiner_14 : decode cX11_joiner 14 = .ok (.invokevirtual 342, 3) := by decide +kernel
theorem dX11_joiner_17 : decode cX11_joiner 17 = .ok (.iload_n 1, 1) := by decide +kernel
theorem dX11_joiner_18 : decode cX11_joiner 18 = .ok (.ifCond .ne 13, 3) := by decide +kernel
theorem dX11_joiner_21 : decode cX11_joiner 21 = .ok (.aload_n 0, 1) := by decide +kernel
theorem dX11_joiner_22 : decode cX11_joiner 22 = .ok (.getfield 81, 3) := by decide +kernel
theorem dX11_joiner_25 : decode cX11_joiner 25 = .ok (.getfield 345, 3) := by decide +kernel
theorem dX11_joiner_28 : decode cX11_joiner 28 = .ok (.goto 10, 3) := by decide +kernel
theorem dX11_joiner_31 : decode cX11_joiner 31 = .ok (.aload_n 0, 1) := by decide +kernel
theorem dX11_joiner_32 : decode cX11_joiner 32 = .ok (.getfield 81, 3) := by decide +kernel
theorem dX11_joiner_35 : decode cX11_joiner 35 = .ok (.getfield 348, 3) := by decide +kernel
theorem dX11_joiner_38 : decode cX11_joiner 38 = .ok (.ireturn, 1) := by decide +kernel
theorem dX11_leaks_0 : decode cX11_leaks 0 = .ok (.aload_n 0, 1) := by decide +kernel
theorem dX11_leaks_1 : decode cX11_leaks 1 = .ok (.iload_n 1, 1) := by decide +kernel
theorem dX11_leaks_2 : decode cX11_leaks 2 = .ok (.iconst 0, 1) := by decide +kernel
theorem dX11_leaks_3 : decode cX11_leaks 3 = .ok (.iconst 1, 1) := by decide +kernel
theorem dX11_leaks_4 : decode cX11_leaks 4 = .ok (.invokestatic 189, 3) := by decide +kernel
theorem dX11_leaks_7 : decode cX11_leaks 7 = .ok (.invokevirtual 193, 3) := by decide +kernel
theorem dX11_leaks_10 : decode cX11_leaks 10 = .ok (.aload_n 0, 1) := by decide +kernel
theorem dX11_leaks_11 : decode cX11_leaks 11 = .ok (.getfield 39, 3) := by decide +kernel
theorem dX11_leaks_14 : decode cX11_leaks 14 = .ok (.aload_n 0, 1) := by decide +kernel
theorem dX11_leaks_15 : decode cX11_leaks 15 = .ok (.getfield 56, 3) := by decide +kernel
theorem dX11_leaks_18 : decode cX11_leaks 18 = .ok (.aload_n 0, 1) := by decide +kernel
theorem dX11_leaks_19 : decode cX11_leaks 19 = .ok (.getfield 72, 3) := by decide +kernel
theorem dX11_leaks_22 : decode cX11_leaks 22 = .ok (.invokevirtual 351, 3) := by decide +kernel
theorem dX11_leaks_25 : decode cX11_leaks 25 = .ok (.iload_n 1, 1) := by decide +kernel
theorem dX11_leaks_26 : decode cX11_leaks 26 = .ok (.ifCond .ne 13, 3) := by decide +kernel
theorem dX11_leaks_29 : decode cX11_leaks 29 = .ok (.aload_n 0, 1) := by decide +kernel
theorem dX11_leaks_30 : decode cX11_leaks 30 = .ok (.getfield 39, 3) := by decide +kernel
theorem dX11_leaks_33 : decode cX11_leaks 33 = .ok (.getfield 355, 3) := by decide +kernel
theorem dX11_leaks_36 : decode cX11_leaks 36 = .ok (.goto 10, 3) := by decide +kernel
theorem dX11_leaks_39 : decode cX11_leaks 39 = .ok (.aload_n 0, 1) := by decide +kernel
theorem dX11_leaks_40 : decode cX11_leaks 40 = .ok (.getfield 39, 3) := by decide +kernel
theorem dX11_leaks_43 : decode cX11_leaks 43 = .ok (.getfield 358, 3) := by decide +kernel
theorem dX11_leaks_46 : decode cX11_leaks 46 = .ok (.ireturn, 1) := by decide +kernel
theorem dX11_look_0 : decode cX11_look 0 = .ok (.aload_n 0, 1) := by decide +kernel
theorem dX11_look_1 : decode cX11_look 1 = .ok (.iload_n 1, 1) := by decide +kernel
theorem dX11_look_2 : decode cX11_look 2 = .ok (.iconst 0, 1) := by decide +kernel
theorem dX11_look_3 : decode cX11_look 3 = .ok (.iconst 1, 1) := by decide +kernel
theorem dX11_look_4 : decode cX11_look 4 = .ok (.invokestatic 189, 3) := by decide +kernel
theorem dX11_look_7 : decode cX11_look 7 = .ok (.invokevirtual 193, 3) := by decide +kernel
theorem dX11_look_10 : decode cX11_look 10 = .ok (.aload_n 0, 1) := by decide +kernel
theorem dX11_look_11 : decode cX11_look 11 = .ok (.getfield 39, 3) := by decide +kernel
theorem dX11_look_14 : decode cX11_look 14 = .ok (.aload_n 0, 1) := by decide +kernel
theorem dX11_look_15 : decode cX11_look 15 = .ok (.getfield 56, 3) := by decide +kernel
theorem dX11_look_18 : decode cX11_look 18 = .ok (.aload_n 0, 1) := by decide +kernel
theorem dX11_look_19 : decode cX11_look 19 = .ok (.getfield 72, 3) := by decide +kernel
theorem dX11_look_22 : decode cX11_look 22 = .ok (.invokevirtual 361, 3) := by decide +kernel
theorem dX11_look_25 : decode cX11_look 25 = .ok (.iload_n 1, 1) := by decide +kernel
theorem dX11_look_26 : decode cX11_look 26 = .ok (.ifCond .ne 13, 3) := by decide +kernel
theorem dX11_look_29 : decode cX11_look 29 = .ok (.aload_n 0, 1) := by decide +kernel
theorem dX11_look_30 : decode cX11_look 30 = .ok (.getfield 39, 3) := by decide +kernel
theorem dX11_look_33 : decode cX11_look 33 = .ok (.getfield 364, 3) := by decide +kernel
theorem dX11_look_36 : decode cX11_look 36 = .ok (.goto 10, 3) := by decide +kernel
theorem dX11_look_39 : decode cX11_look 39 = .ok (.aload_n 0, 1) := by decide +kernel
theorem dX11_look_40 : decode cX11_look 40 = .ok (.getfield 39, 3) := by decide +kernel
theorem dX11_look_43 : decode cX11_look 43 = .ok (.getfield 367, 3) := by decide +kernel
theorem dX11_look_46 : decode cX11_look 46 = .ok (.ireturn, 1) := by decide +kernel
theorem dX11_wed_0 : decode cX11_wed 0 = .ok (.aload_n 0, 1) := by decide +kernel
theorem dX11_wed_1 : decode cX11_wed 1 = .ok (.getfield 81, 3) := by decide +kernel
theorem dX11_wed_4 : decode cX11_wed 4 = .ok (.invokevirtual 370, 3) := by decide +kernel
theorem dX11_wed_7 : decode cX11_wed 7 = .ok (.ireturn, 1) := by decide +kernel
theorem dX11_sure_0 : decode cX11_sure 0 = .ok (.aload_n 0, 1) := by decide +kernel
theorem dX11_sure_1 : decode cX11_sure 1 = .ok (.iload_n 1, 1) := by decide +kernel
theorem dX11_sure_2 : decode cX11_sure 2 = .ok (.invokevirtual 274, 3) := by decide +kernel
theorem dX11_sure_5 : decode cX11_sure 5 = .ok (.aload_n 0, 1) := by decide +kernel
theorem dX11_sure_6 : decode cX11_sure 6 = .ok (.iload_n 2, 1) := by decide +kernel
theorem dX11_sure_7 : decode cX11_sure 7 = .ok (.iconst 0, 1) := by decide +kernel
theorem dX11_sure_8 : decode cX11_sure 8 = .ok (.bipush 16, 2) := by decide +kernel
theorem dX11_sure_10 : decode cX11_sure 10 = .ok (.invokestatic 189, 3) := by decide +kernel
theorem dX11_sure_13 : decode cX11_sure 13 = .ok (.ifCond .eq 16, 3) := by decide +kernel
theorem dX11_sure_16 : decode cX11_sure 16 = .ok (.iload_n 3, 1) := by decide +kernel
theorem dX11_sure_17 : decode cX11_sure 17 = .ok (.iconst 0, 1) := by decide +kernel
theorem dX11_sure_18 : decode cX11_sure 18 = .ok (.iconst 1, 1) := by decide +kernel
theorem dX11_sure_19 : decode cX11_sure 19 = .ok (.invokestatic 189, 3) := by decide +kernel
theorem dX11_sure_22 : decode cX11_sure 22 = .ok (.ifCond .eq 7, 3) := by decide +kernel
theorem dX11_sure_25 : decode cX11_sure 25 = .ok (.iconst 1, 1) := by decide +kernel
theorem dX11_sure_26 : decode cX11_sure 26 = .ok (.goto 4, 3) := by decide +kernel
theorem dX11_sure_29 : decode cX11_sure 29 = .ok (.iconst 0, 1) := by decide +kernel
theorem dX11_sure_30 : decode cX11_sure 30 = .ok (.invokevirtual 193, 3) := by decide +kernel
theorem dX11_sure_33 : decode cX11_sure 33 = .ok (.aload_n 0, 1) := by decide +kernel
theorem dX11_sure_34 : decode cX11_sure 34 = .ok (.getfield 72, 3) := by decide +kernel
theorem dX11_sure_37 : decode cX11_sure 37 = .ok (.aload_n 0, 1) := by decide +kernel
theorem dX11_sure_38 : decode cX11_sure 38 = .ok (.getfield 56, 3) := by decide +kernel
theorem dX11_sure_41 : decode cX11_sure 41 = .ok (.iload_n 1, 1) := by decide +kernel
theorem dX11_sure_42 : decode cX11_sure 42 = .ok (.iload_n 2, 1) := by decide +kernel
theorem dX11_sure_43 : decode cX11_sure 43 = .ok (.invokevirtual 373, 3) := by decide +kernel
theorem dX11_sure_46 : decode cX11_sure 46 = .ok (.lstore 4, 2) := by decide +kernel
theorem dX11_sure_48 : decode cX11_sure 48 = .ok (.lconst 1, 1) := by decide +kernel
theorem dX11_sure_49 : decode cX11_sure 49 = .ok (.iconst 4, 1) := by decide +kernel
theorem dX11_sure_50 : decode cX11_sure 50 = .ok (.aload_n 0, 1) := by decide +kernel
theorem dX11_sure_51 : decode cX11_sure 51 = .ok (.getfield 56, 3) := by decide +kernel
theorem dX11_sure_54 : decode cX11_sure 54 = .ok (.getfield 206, 3) := by decide +kernel
theorem dX11_sure_57 : decode cX11_sure 57 = .ok (.imul, 1) := by decide +kernel
theorem dX11_sure_58 : decode cX11_sure 58 = .ok (.lshl, 1) := by decide +kernel
theorem dX11_sure_59 : decode cX11_sure 59 = .ok (.lstore 6, 2) := by decide +kernel
theorem dX11_sure_61 : decode cX11_sure 61 = .ok (.iconst 0, 1) := by decide +kernel
theorem dX11_sure_62 : decode cX11_sure 62 = .ok (.istore 8, 2) := by decide +kernel
theorem dX11_sure_64 : decode cX11_sure 64 = .ok (.iload 8, 2) := by decide +kernel
theorem dX11_sure_66 : decode cX11_sure 66 = .ok (.bipush 24, 2) := by decide +kernel
theorem dX11_sure_68 : decode cX11_sure 68 = .ok (.if_icmp .ge 37, 3) := by decide +kernel
theorem dX11_sure_71 : decode cX11_sure 71 = .ok (.lload 6, 2) := by decide +kernel
theorem dX11_sure_73 : decode cX11_sure 73 = .ok (.lconst 1, 1) := by decide +kernel
theorem dX11_sure_74 : decode cX11_sure 74 = .ok (.lcmp, 1) := by decide +kernel
theorem dX11_sure_75 : decode cX11_sure 75 = .ok (.ifCond .le 30, 3) := by decide +kernel
theorem dX11_sure_78 : decode cX11_sure 78 = .ok (.lload 4, 2) := by decide +kernel
theorem dX11_sure_80 : decode cX11_sure 80 = .ok (.lconst 1, 1) := by decide +kernel
theorem dX11_sure_81 : decode cX11_sure 81 = .ok (.land, 1) := by decide +kernel
theorem dX11_sure_82 : decode cX11_sure 82 = .ok (.lconst 0, 1) := by decide +kernel
theorem dX11_sure_83 : decode cX11_sure 83 = .ok (.lcmp, 1) := by decide +kernel
theorem dX11_sure_84 : decode cX11_sure 84 = .ok (.ifCond .ne 21, 3) := by decide +kernel
theorem dX11_sure_87 : decode cX11_sure 87 = .ok (.lload 4, 2) := by decide +kernel
theorem dX11_sure_89 : decode cX11_sure 89 = .ok (.iconst 1, 1) := by decide +kernel
theorem dX11_sure_90 : decode cX11_sure 90 = .ok (.lshr, 1) := by decide +kernel
theorem dX11_sure_91 : decode cX11_sure 91 = .ok (.lstore 4, 2) := by decide +kernel
theorem dX11_sure_93 : decode cX11_sure 93 = .ok (.lload 6, 2) := by decide +kernel
theorem dX11_sure_95 : decode cX11_sure 95 = .ok (.iconst 1, 1) := by decide +kernel
theorem dX11_sure_96 : decode cX11_sure 96 = .ok (.lshr, 1) := by decide +kernel
theorem dX11_sure_97 : decode cX11_sure 97 = .ok (.lstore 6, 2) := by decide +kernel
theorem dX11_sure_99 : decode cX11_sure 99 = .ok (.iinc 8 1, 3) := by decide +kernel
theorem dX11_sure_102 : decode cX11_sure 102 = .ok (.goto (-38), 3) := by decide +kernel
theorem dX11_sure_105 : decode cX11_sure 105 = .ok (.iload_n 3, 1) := by decide +kernel
theorem dX11_sure_106 : decode cX11_sure 106 = .ok (.ifCond .ne 8, 3) := by decide +kernel
theorem dX11_sure_109 : decode cX11_sure 109 = .ok (.lload 4, 2) := by decide +kernel
theorem dX11_sure_111 : decode cX11_sure 111 = .ok (.goto 5, 3) := by decide +kernel
theorem dX11_sure_114 : decode cX11_sure 114 = .ok (.lload 6, 2) := by decide +kernel
theorem dX11_sure_116 : decode cX11_sure 116 = .ok (.lreturn, 1) := by decide +kernel
theorem dX11_street_0 : decode cX11_street 0 = .ok (.aload_n 0, 1) := by decide +kernel
theorem dX11_street_1 : decode cX11_street 1 = .ok (.iload_n 1, 1) := by decide +kernel
theorem dX11_street_2 : decode cX11_street 2 = .ok (.iconst 0, 1) := by decide +kernel
theorem dX11_street_3 : decode cX11_street 3 = .ok (.bipush 99, 2) := by decide +kernel
theorem dX11_street_5 : decode cX11_street 5 = .ok (.invokestatic 189, 3) := by decide +kernel
theorem dX11_street_8 : decode cX11_street 8 = .ok (.ifCond .eq 26, 3) := by decide +kernel
theorem dX11_street_11 : decode cX11_street 11 = .ok (.iload_n 2, 1) := by decide +kernel
theorem dX11_street_12 : decode cX11_street 12 = .ok (.iconst 0, 1) := by decide +kernel
theorem dX11_street_13 : decode cX11_street 13 = .ok (.bipush 9, 2) := by decide +kernel
theorem dX11_street_15 : decode cX11_street 15 = .ok (.invokestatic 189, 3) := by decide +kernel
theorem dX11_street_18 : decode cX11_street 18 = .ok (.ifCond .eq 16, 3) := by decide +kernel
theorem dX11_street_21 : decode cX11_street 21 = .ok (.iload_n 3, 1) := by decide +kernel
theorem dX11_street_22 : decode cX11_street 22 = .ok (.iconst 0, 1) := by decide +kernel
theorem dX11_street_23 : decode cX11_street 23 = .ok (.iconst 2, 1) := by decide +kernel
theorem dX11_street_24 : decode cX11_street 24 = .ok (.invokestatic 189, 3) := by decide +kernel
theorem dX11_street_27 : decode cX11_street 27 = .ok (.ifCond .eq 7, 3) := by decide +kernel
theorem dX11_street_30 : decode cX11_street 30 = .ok (.iconst 1, 1) := by decide +kernel
theorem dX11_street_31 : decode cX11_street 31 = .ok (.goto 4, 3) := by decide +kernel
theorem dX11_street_34 : decode cX11_street 34 = .ok (.iconst 0, 1) := by decide +kernel
theorem dX11_street_35 : decode cX11_street 35 = .ok (.invokevirtual 193, 3) := by decide +kernel
theorem dX11_street_38 : decode cX11_street 38 = .ok (.aload_n 0, 1) := by decide +kernel
theorem dX11_street_39 : decode cX11_street 39 = .ok (.getfield 90, 3) := by decide +kernel
theorem dX11_street_42 : decode cX11_street 42 = .ok (.aload_n 0, 1) := by decide +kernel
theorem dX11_street_43 : decode cX11_street 43 = .ok (.getfield 56, 3) := by decide +kernel
theorem dX11_street_46 : decode cX11_street 46 = .ok (.iload_n 2, 1) := by decide +kernel
theorem dX11_street_47 : decode cX11_street 47 = .ok (.invokevirtual 377, 3) := by decide +kernel
theorem dX11_street_50 : decode cX11_street 50 = .ok (.iload_n 3, 1) := by decide +kernel
theorem dX11_street_51 : decode cX11_street 51 = .ok (.lookupswitch 41 #[(0, 25), (1, 33)], 25) := by decide +kernel
theorem dX11_street_76 : decode cX11_street 76 = .ok (.aload_n 0, 1) := by decide +kernel
theorem dX11_street_77 : decode cX11_street 77 = .ok (.getfield 90, 3) := by decide +kernel
theorem dX11_street_80 : decode cX11_street 80 = .ok (.getfield 380, 3) := by decide +kernel
theorem dX11_street_83 : decode cX11_street 83 = .ok (.ireturn, 1) := by decide +kernel
theorem dX11_street_84 : decode cX11_street 84 = .ok (.aload_n 0, 1) := by decide +kernel
theorem dX11_street_85 : decode cX11_street 85 = .ok (.getfield 90, 3) := by decide +kernel
theorem dX11_street_88 : decode cX11_street 88 = .ok (.getfield 383, 3) := by decide +kernel
theorem dX11_street_91 : decode cX11_street 91 = .ok (.ireturn, 1) := by decide +kernel
theorem dX11_street_92 : decode cX11_street 92 = .ok (.aload_n 0, 1) := by decide +kernel
theorem dX11_street_93 : decode cX11_street 93 = .ok (.getfield 90, 3) := by decide +kernel
theorem dX11_street_96 : decode cX11_street 96 = .ok (.getfield 380, 3) := by decide +kernel
theorem dX11_street_99 : decode cX11_street 99 = .ok (.ifCond .ne 7, 3) := by decide +kernel
theorem dX11_street_102 : decode cX11_street 102 = .ok (.iconst 0, 1) := by decide +kernel
theorem dX11_street_103 : decode cX11_street 103 = .ok (.goto 12, 3) := by decide +kernel
theorem dX11_street_106 : decode cX11_street 106 = .ok (.iload_n 1, 1) := by decide +kernel
theorem dX11_street_107 : decode cX11_street 107 = .ok (.aload_n 0, 1) := by decide +kernel
theorem dX11_street_108 : decode cX11_street 108 = .ok (.getfield 90, 3) := by decide +kernel
theorem dX11_street_111 : decode cX11_street 111 = .ok (.getfield 386, 3) := by decide +kernel
theorem dX11_street_114 : decode cX11_street 114 = .ok (.isub, 1) := by decide +kernel
theorem dX11_street_115 : decode cX11_street 115 = .ok (.ireturn, 1) := by decide +kernel
theorem dX11_share_0 : decode cX11_share 0 = .ok (.aload_n 0, 1) := by decide +kernel
theorem dX11_share_1 : decode cX11_share 1 = .ok (.iload_n 1, 1) := by decide +kernel
theorem dX11_share_2 : decode cX11_share 2 = .ok (.invokevirtual 274, 3) := by decide +kernel
theorem dX11_share_5 : decode cX11_share 5 = .ok (.aload_n 0, 1) := by decide +kernel
theorem dX11_share_6 : decode cX11_share 6 = .ok (.iload_n 2, 1) := by decide +kernel
theorem dX11_share_7 : decode cX11_share 7 = .ok (.iconst 0, 1) := by decide +kernel
theorem dX11_share_8 : decode cX11_share 8 = .ok (.iconst 1, 1) := by decide +kernel
theorem dX11_share_9 : decode cX11_share 9 = .ok (.aload_n 0, 1) := by decide +kernel
theorem dX11_share_10 : decode cX11_share 10 = .ok (.getfield 19, 3) := by decide +kernel
theorem dX11_share_13 : decode cX11_share 13 = .ok (.getfield 200, 3) := by decide +kernel
theorem dX11_share_16 : decode cX11_share 16 = .ok (.ishl, 1) := by decide +kernel
theorem dX11_share_17 : decode cX11_share 17 = .ok (.iconst 1, 1) := by decide +kernel
theorem dX11_share_18 : decode cX11_share 18 = .ok (.isub, 1) := by decide +kernel
theorem dX11_share_19 : decode cX11_share 19 = .ok (.invokestatic 189, 3) := by decide +kernel
theorem dX11_share_22 : decode cX11_share 22 = .ok (.ifCond .eq 18, 3) := by decide +kernel
theorem dX11_share_25 : decode cX11_share 25 = .ok (.iload_n 3, 1) := by decide +kernel
theorem dX11_share_26 : decode cX11_share 26 = .ok (.iconst 0, 1) := by decide +kernel
theorem dX11_share_27 : decode cX11_share 27 = .ok (.sipush 999, 3) := by decide +kernel
theorem dX11_share_30 : decode cX11_share 30 = .ok (.invokestatic 189, 3) := by decide +kernel
theorem dX11_share_33 : decode cX11_share 33 = .ok (.ifCond .eq 7, 3) := by decide +kernel
theorem dX11_share_36 : decode cX11_share 36 = .ok (.iconst 1, 1) := by decide +kernel
theorem dX11_share_37 : decode cX11_share 37 = .ok (.goto 4, 3) := by decide +kernel
theorem dX11_share_40 : decode cX11_share 40 = .ok (.iconst 0, 1) := by decide +kernel
theorem dX11_share_41 : decode cX11_share 41 = .ok (.invokevirtual 193, 3) := by decide +kernel
theorem dX11_share_44 : decode cX11_share 44 = .ok (.iload_n 2, 1) := by decide +kernel
theorem dX11_share_45 : decode cX11_share 45 = .ok (.iload_n 1, 1) := by decide +kernel
theorem dX11_share_46 : decode cX11_share 46 = .ok (.invokestatic 258, 3) := by decide +kernel
theorem dX11_share_49 : decode cX11_share 49 = .ok (.ifCond .ne 5, 3) := by decide +kernel
theorem dX11_share_52 : decode cX11_share 52 = .ok (.iconst 0, 1) := by decide +kernel
theorem dX11_share_53 : decode cX11_share 53 = .ok (.ireturn, 1) := by decide +kernel
theorem dX11_share_54 : decode cX11_share 54 = .ok (.aload_n 0, 1) := by decide +kernel
theorem dX11_share_55 : decode cX11_share 55 = .ok (.getfield 19, 3) := by decide +kernel
theorem dX11_share_58 : decode cX11_share 58 = .ok (.getfield 280, 3) := by decide +kernel
theorem dX11_share_61 : decode cX11_share 61 = .ok (.iload_n 1, 1) := by decide +kernel
theorem dX11_share_62 : decode cX11_share 62 = .ok (.invokestatic 232, 3) := by decide +kernel
theorem dX11_share_65 : decode cX11_share 65 = .ok (.aload_n 0, 1) := by decide +kernel
theorem dX11_share_66 : decode cX11_share 66 = .ok (.getfield 19, 3) := by decide +kernel
theorem dX11_share_69 : decode cX11_share 69 = .ok (.iload_n 2, 1) := by decide +kernel
theorem dX11_share_70 : decode cX11_share 70 = .ok (.iload_n 3, 1) := by decide +kernel
theorem dX11_share_71 : decode cX11_share 71 = .ok (.invokevirtual 389, 3) := by decide +kernel
theorem dX11_share_74 : decode cX11_share 74 = .ok (.invokestatic 392, 3) := by decide +kernel
theorem dX11_share_77 : decode cX11_share 77 = .ok (.ireturn, 1) := by decide +kernel
theorem dX11_next_0 : decode cX11_next 0 = .ok (.aload_n 0, 1) := by decide +kernel
theorem dX11_next_1 : decode cX11_next 1 = .ok (.iload_n 1, 1) := by decide +kernel
theorem dX11_next_2 : decode cX11_next 2 = .ok (.iconst 0, 1) := by decide +kernel
theorem dX11_next_3 : decode cX11_next 3 = .ok (.iconst 1, 1) := by decide +kernel
theorem dX11_next_4 : decode cX11_next 4 = .ok (.invokestatic 189, 3) := by decide +kernel
theorem dX11_next_7 : decode cX11_next 7 = .ok (.invokevirtual 193, 3) := by decide +kernel
theorem dX11_next_10 : decode cX11_next 10 = .ok (.iconst 0, 1) := by decide +kernel
theorem dX11_next_11 : decode cX11_next 11 = .ok (.istore_n 2, 1) := by decide +kernel
theorem dX11_next_12 : decode cX11_next 12 = .ok (.iconst 0, 1) := by decide +kernel
theorem dX11_next_13 : decode cX11_next 13 = .ok (.istore_n 3, 1) := by decide +kernel
theorem dX11_next_14 : decode cX11_next 14 = .ok (.iload_n 3, 1) := by decide +kernel
theorem dX11_next_15 : decode cX11_next 15 = .ok (.aload_n 0, 1) := by decide +kernel
theorem dX11_next_16 : decode cX11_next 16 = .ok (.getfield 19, 3) := by decide +kernel
theorem dX11_next_19 : decode cX11_next 19 = .ok (.getfield 149, 3) := by decide +kernel
theorem dX11_next_22 : decode cX11_next 22 = .ok (.if_icmp .ge 39, 3) := by decide +kernel
theorem dX11_next_25 : decode cX11_next 25 = .ok (.aload_n 0, 1) := by decide +kernel
theorem dX11_next_26 : decode cX11_next 26 = .ok (.getfield 56, 3) := by decide +kernel
theorem dX11_next_29 : decode cX11_next 29 = .ok (.aload_n 0, 1) := by decide +kernel
theorem dX11_next_30 : decode cX11_next 30 = .ok (.getfield 19, 3) := by decide +kernel
theorem dX11_next_33 : decode cX11_next 33 = .ok (.aload_n 0, 1) := by decide +kernel
theorem dX11_next_34 : decode cX11_next 34 = .ok (.getfield 56, 3) := by decide +kernel
theorem dX11_next_37 : decode cX11_next 37 = .ok (.iload_n 3, 1) := by decide +kernel
theorem dX11_next_38 : decode cX11_next 38 = .ok (.invokevirtual 236, 3) := by decide +kernel
theorem dX11_next_41 : decode cX11_next 41 = .ok (.iload_n 1, 1) := by decide +kernel
theorem dX11_next_42 : decode cX11_next 42 = .ok (.ixor, 1) := by decide +kernel
theorem dX11_next_43 : decode cX11_next 43 = .ok (.invokevirtual 313, 3) := by decide +kernel
theorem dX11_next_46 : decode cX11_next 46 = .ok (.ifCond .eq 9, 3) := by decide +kernel
theorem dX11_next_49 : decode cX11_next 49 = .ok (.iload_n 2, 1) := by decide +kernel
theorem dX11_next_50 : decode cX11_next 50 = .ok (.iconst 1, 1) := by decide +kernel
theorem dX11_next_51 : decode cX11_next 51 = .ok (.iload_n 3, 1) := by decide +kernel
theorem dX11_next_52 : decode cX11_next 52 = .ok (.ishl, 1) := by decide +kernel
theorem dX11_next_53 : decode cX11_next 53 = .ok (.ior, 1) := by decide +kernel
theorem dX11_next_54 : decode cX11_next 54 = .ok (.istore_n 2, 1) := by decide +kernel
theorem dX11_next_55 : decode cX11_next 55 = .ok (.iinc 3 1, 3) := by decide +kernel
theorem dX11_next_58 : decode cX11_next 58 = .ok (.goto (-44), 3) := by decide +kernel
theorem dX11_next_61 : decode cX11_next 61 = .ok (.iload_n 2, 1) := by decide +kernel
theorem dX11_next_62 : decode cX11_next 62 = .ok (.ireturn, 1) := by decide +kernel
theorem dX11_worst_0 : decode cX11_worst 0 = .ok (.aload_n 0, 1) := by decide +kernel
theorem dX11_worst_1 : decode cX11_worst 1 = .ok (.iload_n 1, 1) := by decide +kernel
theorem dX11_worst_2 : decode cX11_worst 2 = .ok (.iconst 0, 1) := by decide +kernel
theorem dX11_worst_3 : decode cX11_worst 3 = .ok (.iconst 1, 1) := by decide +kernel
theorem dX11_worst_4 : decode cX11_worst 4 = .ok (.invokestatic 189, 3) := by decide +kernel
theorem dX11_worst_7 : decode cX11_worst 7 = .ok (.invokevirtual 193, 3) := by decide +kernel
theorem dX11_worst_10 : decode cX11_worst 10 = .ok (.aload_n 0, 1) := by decide +kernel
theorem dX11_worst_11 : decode cX11_worst 11 = .ok (.getfield 72, 3) := by decide +kernel
theorem dX11_worst_14 : decode cX11_worst 14 = .ok (.aload_n 0, 1) := by decide +kernel
theorem dX11_worst_15 : decode cX11_worst 15 = .ok (.getfield 56, 3) := by decide +kernel
theorem dX11_worst_18 : decode cX11_worst 18 = .ok (.invokevirtual 397, 3) := by decide +kernel
theorem dX11_worst_21 : decode cX11_worst 21 = .ok (.istore_n 2, 1) := by decide +kernel
theorem dX11_worst_22 : decode cX11_worst 22 = .ok (.iload_n 1, 1) := by decide +kernel
theorem dX11_worst_23 : decode cX11_worst 23 = .ok (.ifCond .ne 5, 3) := by decide +kernel
theorem dX11_worst_26 : decode cX11_worst 26 = .ok (.iload_n 2, 1) := by decide +kernel
theorem dX11_worst_27 : decode cX11_worst 27 = .ok (.ireturn, 1) := by decide +kernel
theorem dX11_worst_28 : decode cX11_worst 28 = .ok (.iload_n 2, 1) := by decide +kernel
theorem dX11_worst_29 : decode cX11_worst 29 = .ok (.ifCond .ge 7, 3) := by decide +kernel
theorem dX11_worst_32 : decode cX11_worst 32 = .ok (.iconst 0, 1) := by decide +kernel
theorem dX11_worst_33 : decode cX11_worst 33 = .ok (.goto 15, 3) := by decide +kernel
theorem dX11_worst_36 : decode cX11_worst 36 = .ok (.aload_n 0, 1) := by decide +kernel
theorem dX11_worst_37 : decode cX11_worst 37 = .ok (.getfield 72, 3) := by decide +kernel
theorem dX11_worst_40 : decode cX11_worst 40 = .ok (.aload_n 0, 1) := by decide +kernel
theorem dX11_worst_41 : decode cX11_worst 41 = .ok (.getfield 56, 3) := by decide +kernel
theorem dX11_worst_44 : decode cX11_worst 44 = .ok (.iload_n 2, 1) := by decide +kernel
theorem dX11_worst_45 : decode cX11_worst 45 = .ok (.invokevirtual 400, 3) := by decide +kernel
theorem dX11_worst_48 : decode cX11_worst 48 = .ok (.ireturn, 1) := by decide +kernel
theorem dX11_needed_0 : decode cX11_needed 0 = .ok (.aload_n 0, 1) := by decide +kernel
theorem dX11_needed_1 : decode cX11_needed 1 = .ok (.iload_n 1, 1) := by decide +kernel
theorem dX11_needed_2 : decode cX11_needed 2 = .ok (.invokevirtual 274, 3) := by decide +kernel
theorem dX11_needed_5 : decode cX11_needed 5 = .ok (.aload_n 0, 1) := by decide +kernel
theorem dX11_needed_6 : decode cX11_needed 6 = .ok (.getfield 56, 3) := by decide +kernel
theorem dX11_needed_9 : decode cX11_needed 9 = .ok (.aload_n 0, 1) := by decide +kernel
theorem dX11_needed_10 : decode cX11_needed 10 = .ok (.getfield 19, 3) := by decide +kernel
theorem dX11_needed_13 : decode cX11_needed 13 = .ok (.invokevirtual 213, 3) := by decide +kernel
theorem dX11_needed_16 : decode cX11_needed 16 = .ok (.aload_n 0, 1) := by decide +kernel
theorem dX11_needed_17 : decode cX11_needed 17 = .ok (.getfield 19, 3) := by decide +kernel
theorem dX11_needed_20 : decode cX11_needed 20 = .ok (.getfield 277, 3) := by decide +kernel
theorem dX11_needed_23 : decode cX11_needed 23 = .ok (.iload_n 1, 1) := by decide +kernel
theorem dX11_needed_24 : decode cX11_needed 24 = .ok (.invokestatic 232, 3) := by decide +kernel
theorem dX11_needed_27 : decode cX11_needed 27 = .ok (.if_icmp .ge 5, 3) := by decide +kernel
theorem dX11_needed_30 : decode cX11_needed 30 = .ok (.iconst (-1), 1) := by decide +kernel
theorem dX11_needed_31 : decode cX11_needed 31 = .ok (.ireturn, 1) := by decide +kernel
theorem dX11_needed_32 : decode cX11_needed 32 = .ok (.iconst 0, 1) := by decide +kernel
theorem dX11_needed_33 : decode cX11_needed 33 = .ok (.istore_n 2, 1) := by decide +kernel
theorem dX11_needed_34 : decode cX11_needed 34 = .ok (.iload_n 2, 1) := by decide +kernel
theorem dX11_needed_35 : decode cX11_needed 35 = .ok (.bipush 99, 2) := by decide +kernel
theorem dX11_needed_37 : decode cX11_needed 37 = .ok (.if_icmp .gt 37, 3) := by decide +kernel
theorem dX11_needed_40 : decode cX11_needed 40 = .ok (.aload_n 0, 1) := by decide +kernel
theorem dX11_needed_41 : decode cX11_needed 41 = .ok (.getfield 72, 3) := by decide +kernel
theorem dX11_needed_44 : decode cX11_needed 44 = .ok (.aload_n 0, 1) := by decide +kernel
theorem dX11_needed_45 : decode cX11_needed 45 = .ok (.getfield 56, 3) := by decide +kernel
theorem dX11_needed_48 : decode cX11_needed 48 = .ok (.iload_n 2, 1) := by decide +kernel
theorem dX11_needed_49 : decode cX11_needed 49 = .ok (.invokevirtual 218, 3) := by decide +kernel
theorem dX11_needed_52 : decode cX11_needed 52 = .ok (.aload_n 0, 1) := by decide +kernel
theorem dX11_needed_53 : decode cX11_needed 53 = .ok (.getfield 19, 3) := by decide +kernel
theorem dX11_needed_56 : decode cX11_needed 56 = .ok (.getfield 280, 3) := by decide +kernel
theorem dX11_needed_59 : decode cX11_needed 59 = .ok (.iload_n 1, 1) := by decide +kernel
theorem dX11_needed_60 : decode cX11_needed 60 = .ok (.invokestatic 232, 3) := by decide +kernel
theorem dX11_needed_63 : decode cX11_needed 63 = .ok (.if_icmp .lt 5, 3) := by decide +kernel
theorem dX11_needed_66 : decode cX11_needed 66 = .ok (.iload_n 2, 1) := by decide +kernel
theorem dX11_needed_67 : decode cX11_needed 67 = .ok (.ireturn, 1) := by decide +kernel
theorem dX11_needed_68 : decode cX11_needed 68 = .ok (.iinc 2 1, 3) := by decide +kernel
theorem dX11_needed_71 : decode cX11_needed 71 = .ok (.goto (-37), 3) := by decide +kernel
theorem dX11_needed_74 : decode cX11_needed 74 = .ok (.iconst (-1), 1) := by decide +kernel
theorem dX11_needed_75 : decode cX11_needed 75 = .ok (.ireturn, 1) := by decide +kernel
theorem dX11_kin_0 : decode cX11_kin 0 = .ok (.aload_n 0, 1) := by decide +kernel
theorem dX11_kin_1 : decode cX11_kin 1 = .ok (.iload_n 1, 1) := by decide +kernel
theorem dX11_kin_2 : decode cX11_kin 2 = .ok (.invokevirtual 306, 3) := by decide +kernel
theorem dX11_kin_5 : decode cX11_kin 5 = .ok (.aload_n 0, 1) := by decide +kernel
theorem dX11_kin_6 : decode cX11_kin 6 = .ok (.getfield 19, 3) := by decide +kernel
theorem dX11_kin_9 : decode cX11_kin 9 = .ok (.getfield 403, 3) := by decide +kernel
theorem dX11_kin_12 : decode cX11_kin 12 = .ok (.iload_n 1, 1) := by decide +kernel
theorem dX11_kin_13 : decode cX11_kin 13 = .ok (.invokestatic 232, 3) := by decide +kernel
theorem dX11_kin_16 : decode cX11_kin 16 = .ok (.ireturn, 1) := by decide +kernel
theorem dX11_year_0 : decode cX11_year 0 = .ok (.aload_n 0, 1) := by decide +kernel
theorem dX11_year_1 : decode cX11_year 1 = .ok (.iload_n 2, 1) := by decide +kernel
theorem dX11_year_2 : decode cX11_year 2 = .ok (.iconst 1, 1) := by decide +kernel
theorem dX11_year_3 : decode cX11_year 3 = .ok (.bipush 96, 2) := by decide +kernel
theorem dX11_year_5 : decode cX11_year 5 = .ok (.invokestatic 189, 3) := by decide +kernel
theorem dX11_year_8 : decode cX11_year 8 = .ok (.ifCond .eq 27, 3) := by decide +kernel
theorem dX11_year_11 : decode cX11_year 11 = .ok (.iload_n 3, 1) := by decide +kernel
theorem dX11_year_12 : decode cX11_year 12 = .ok (.iconst 0, 1) := by decide +kernel
theorem dX11_year_13 : decode cX11_year 13 = .ok (.bipush 16, 2) := by decide +kernel
theorem dX11_year_15 : decode cX11_year 15 = .ok (.invokestatic 189, 3) := by decide +kernel
theorem dX11_year_18 : decode cX11_year 18 = .ok (.ifCond .eq 17, 3) := by decide +kernel
theorem dX11_year_21 : decode cX11_year 21 = .ok (.iload 4, 2) := by decide +kernel
theorem dX11_year_23 : decode cX11_year 23 = .ok (.iconst 0, 1) := by decide +kernel
theorem dX11_year_24 : decode cX11_year 24 = .ok (.iconst 3, 1) := by decide +kernel
theorem dX11_year_25 : decode cX11_year 25 = .ok (.invokestatic 189, 3) := by decide +kernel
theorem dX11_year_28 : decode cX11_year 28 = .ok (.ifCond .eq 7, 3) := by decide +kernel
theorem dX11_year_31 : decode cX11_year 31 = .ok (.iconst 1, 1) := by decide +kernel
theorem dX11_year_32 : decode cX11_year 32 = .ok (.goto 4, 3) := by decide +kernel
theorem dX11_year_35 : decode cX11_year 35 = .ok (.iconst 0, 1) := by decide +kernel
theorem dX11_year_36 : decode cX11_year 36 = .ok (.invokevirtual 193, 3) := by decide +kernel
theorem dX11_year_39 : decode cX11_year 39 = .ok (.aload_n 0, 1) := by decide +kernel
theorem dX11_year_40 : decode cX11_year 40 = .ok (.getfield 97, 3) := by decide +kernel
theorem dX11_year_43 : decode cX11_year 43 = .ok (.aload_n 0, 1) := by decide +kernel
theorem dX11_year_44 : decode cX11_year 44 = .ok (.getfield 56, 3) := by decide +kernel
theorem dX11_year_47 : decode cX11_year 47 = .ok (.iload_n 1, 1) := by decide +kernel
theorem dX11_year_48 : decode cX11_year 48 = .ok (.iload_n 2, 1) := by decide +kernel
theorem dX11_year_49 : decode cX11_year 49 = .ok (.iload_n 3, 1) := by decide +kernel
theorem dX11_year_50 : decode cX11_year 50 = .ok (.invokevirtual 406, 3) := by decide +kernel
theorem dX11_year_53 : decode cX11_year 53 = .ok (.iload 4, 2) := by decide +kernel
theorem dX11_year_55 : decode cX11_year 55 = .ok (.tableswitch 69 0 2 #[25, 33, 44], 25) := by decide +kernel
theorem dX11_year_80 : decode cX11_year 80 = .ok (.aload_n 0, 1) := by decide +kernel
theorem dX11_year_81 : decode cX11_year 81 = .ok (.getfield 97, 3) := by decide +kernel
theorem dX11_year_84 : decode cX11_year 84 = .ok (.getfield 410, 3) := by decide +kernel
theorem dX11_year_87 : decode cX11_year 87 = .ok (.ireturn, 1) := by decide +kernel
theorem dX11_year_88 : decode cX11_year 88 = .ok (.aload_n 0, 1) := by decide +kernel
theorem dX11_year_89 : decode cX11_year 89 = .ok (.getfield 97, 3) := by decide +kernel
theorem dX11_year_92 : decode cX11_year 92 = .ok (.getfield 413, 3) := by decide +kernel
theorem dX11_year_95 : decode cX11_year 95 = .ok (.invokevirtual 209, 3) := by decide +kernel
theorem dX11_year_98 : decode cX11_year 98 = .ok (.ireturn, 1) := by decide +kernel
theorem dX11_year_99 : decode cX11_year 99 = .ok (.aload_n 0, 1) := by decide +kernel
theorem dX11_year_100 : decode cX11_year 100 = .ok (.getfield 72, 3) := by decide +kernel
theorem dX11_year_103 : decode cX11_year 103 = .ok (.aload_n 0, 1) := by decide +kernel
theorem dX11_year_104 : decode cX11_year 104 = .ok (.getfield 97, 3) := by decide +kernel
theorem dX11_year_107 : decode cX11_year 107 = .ok (.getfield 413, 3) := by decide +kernel
theorem dX11_year_110 : decode cX11_year 110 = .ok (.aload_n 0, 1) := by decide +kernel
theorem dX11_year_111 : decode cX11_year 111 = .ok (.getfield 97, 3) := by decide +kernel
theorem dX11_year_114 : decode cX11_year 114 = .ok (.getfield 413, 3) := by decide +kernel
theorem dX11_year_117 : decode cX11_year 117 = .ok (.getfield 217, 3) := by decide +kernel
theorem dX11_year_120 : decode cX11_year 120 = .ok (.invokevirtual 218, 3) := by decide +kernel
theorem dX11_year_123 : decode cX11_year 123 = .ok (.ireturn, 1) := by decide +kernel
theorem dX11_year_124 : decode cX11_year 124 = .ok (.aload_n 0, 1) := by decide +kernel
theorem dX11_year_125 : decode cX11_year 125 = .ok (.getfield 97, 3) := by decide +kernel
theorem dX11_year_128 : decode cX11_year 128 = .ok (.getfield 413, 3) := by decide +kernel
theorem dX11_year_131 : decode cX11_year 131 = .ok (.invokevirtual 416, 3) := by decide +kernel
theorem dX11_year_134 : decode cX11_year 134 = .ok (.ireturn, 1) := by decide +kernel
theorem dX11_span_0 : decode cX11_span 0 = .ok (.aload_n 0, 1) := by decide +kernel
theorem dX11_span_1 : decode cX11_span 1 = .ok (.iload_n 2, 1) := by decide +kernel
theorem dX11_span_2 : decode cX11_span 2 = .ok (.iconst 1, 1) := by decide +kernel
theorem dX11_span_3 : decode cX11_span 3 = .ok (.bipush 20, 2) := by decide +kernel
theorem dX11_span_5 : decode cX11_span 5 = .ok (.invokestatic 189, 3) := by decide +kernel
theorem dX11_span_8 : decode cX11_span 8 = .ok (.ifCond .eq 28, 3) := by decide +kernel
theorem dX11_span_11 : decode cX11_span 11 = .ok (.iload_n 3, 1) := by decide +kernel
theorem dX11_span_12 : decode cX11_span 12 = .ok (.iconst 1, 1) := by decide +kernel
theorem dX11_span_13 : decode cX11_span 13 = .ok (.bipush 96, 2) := by decide +kernel
theorem dX11_span_15 : decode cX11_span 15 = .ok (.invokestatic 189, 3) := by decide +kernel
theorem dX11_span_18 : decode cX11_span 18 = .ok (.ifCond .eq 18, 3) := by decide +kernel
theorem dX11_span_21 : decode cX11_span 21 = .ok (.iload 4, 2) := by decide +kernel
theorem dX11_span_23 : decode cX11_span 23 = .ok (.iconst 0, 1) := by decide +kernel
theorem dX11_span_24 : decode cX11_span 24 = .ok (.bipush 16, 2) := by decide +kernel
theorem dX11_span_26 : decode cX11_span 26 = .ok (.invokestatic 189, 3) := by decide +kernel
theorem dX11_span_29 : decode cX11_span 29 = .ok (.ifCond .eq 7, 3) := by decide +kernel
theorem dX11_span_32 : decode cX11_span 32 = .ok (.iconst 1, 1) := by decide +kernel
theorem dX11_span_33 : decode cX11_span 33 = .ok (.goto 4, 3) := by decide +kernel
theorem dX11_span_36 : decode cX11_span 36 = .ok (.iconst 0, 1) := by decide +kernel
theorem dX11_span_37 : decode cX11_span 37 = .ok (.invokevirtual 193, 3) := by decide +kernel
theorem dX11_span_40 : decode cX11_span 40 = .ok (.aload_n 0, 1) := by decide +kernel
theorem dX11_span_41 : decode cX11_span 41 = .ok (.iload 5, 2) := by decide +kernel
theorem dX11_span_43 : decode cX11_span 43 = .ok (.iconst 0, 1) := by decide +kernel
theorem dX11_span_44 : decode cX11_span 44 = .ok (.iconst 2, 1) := by decide +kernel
theorem dX11_span_45 : decode cX11_span 45 = .ok (.invokestatic 189, 3) := by decide +kernel
theorem dX11_span_48 : decode cX11_span 48 = .ok (.ifCond .eq 25, 3) := by decide +kernel
theorem dX11_span_51 : decode cX11_span 51 = .ok (.iload 6, 2) := by decide +kernel
theorem dX11_span_53 : decode cX11_span 53 = .ok (.iconst 0, 1) := by decide +kernel
theorem dX11_span_54 : decode cX11_span 54 = .ok (.aload_n 0, 1) := by decide +kernel
theorem dX11_span_55 : decode cX11_span 55 = .ok (.getfield 19, 3) := by decide +kernel
theorem dX11_span_58 : decode cX11_span 58 = .ok (.getfield 200, 3) := by decide +kernel
theorem dX11_span_61 : decode cX11_span 61 = .ok (.iconst 1, 1) := by decide +kernel
theorem dX11_span_62 : decode cX11_span 62 = .ok (.isub, 1) := by decide +kernel
theorem dX11_span_63 : decode cX11_span 63 = .ok (.invokestatic 189, 3) := by decide +kernel
theorem dX11_span_66 : decode cX11_span 66 = .ok (.ifCond .eq 7, 3) := by decide +kernel
theorem dX11_span_69 : decode cX11_span 69 = .ok (.iconst 1, 1) := by decide +kernel
theorem dX11_span_70 : decode cX11_span 70 = .ok (.goto 4, 3) := by decide +kernel
theorem dX11_span_73 : decode cX11_span 73 = .ok (.iconst 0, 1) := by decide +kernel
theorem dX11_span_74 : decode cX11_span 74 = .ok (.invokevirtual 193, 3) := by decide +kernel
theorem dX11_span_77 : decode cX11_span 77 = .ok (.bipush 6, 2) := by decide +kernel
theorem dX11_span_79 : decode cX11_span 79 = .ok (.istore 7, 2) := by decide +kernel
theorem dX11_span_81 : decode cX11_span 81 = .ok (.iconst 0, 1) := by decide +kernel
theorem dX11_span_82 : decode cX11_span 82 = .ok (.istore 8, 2) := by decide +kernel
theorem dX11_span_84 : decode cX11_span 84 = .ok (.iconst 0, 1) := by decide +kernel
theorem dX11_span_85 : decode cX11_span 85 = .ok (.istore 9, 2) := by decide +kernel
theorem dX11_span_87 : decode cX11_span 87 = .ok (.iconst 0, 1) := by decide +kernel
theorem dX11_span_88 : decode cX11_span 88 = .ok (.istore 10, 2) := by decide +kernel
theorem dX11_span_90 : decode cX11_span 90 = .ok (.iload 10, 2) := by decide +kernel
theorem dX11_span_92 : decode cX11_span 92 = .ok (.iload_n 2, 1) := by decide +kernel
theorem dX11_span_93 : decode cX11_span 93 = .ok (.if_icmp .ge 81, 3) := by decide +kernel
theorem dX11_span_96 : decode cX11_span 96 = .ok (.aload_n 0, 1) := by decide +kernel
theorem dX11_span_97 : decode cX11_span 97 = .ok (.getfield 97, 3) := by decide +kernel
theorem dX11_span_100 : decode cX11_span 100 = .ok (.aload_n 0, 1) := by decide +kernel
theorem dX11_span_101 : decode cX11_span 101 = .ok (.getfield 56, 3) := by decide +kernel
theorem dX11_span_104 : decode cX11_span 104 = .ok (.iload_n 1, 1) := by decide +kernel
theorem dX11_span_105 : decode cX11_span 105 = .ok (.iload 10, 2) := by decide +kernel
theorem dX11_span_107 : decode cX11_span 107 = .ok (.iadd, 1) := by decide +kernel
theorem dX11_span_108 : decode cX11_span 108 = .ok (.iload_n 3, 1) := by decide +kernel
theorem dX11_span_109 : decode cX11_span 109 = .ok (.iload 4, 2) := by decide +kernel
theorem dX11_span_111 : decode cX11_span 111 = .ok (.invokevirtual 406, 3) := by decide +kernel
theorem dX11_span_114 : decode cX11_span 114 = .ok (.iload 7, 2) := by decide +kernel
theorem dX11_span_116 : decode cX11_span 116 = .ok (.aload_n 0, 1) := by decide +kernel
theorem dX11_span_117 : decode cX11_span 117 = .ok (.getfield 97, 3) := by decide +kernel
theorem dX11_span_120 : decode cX11_span 120 = .ok (.getfield 413, 3) := by decide +kernel
theorem dX11_span_123 : decode cX11_span 123 = .ok (.getfield 206, 3) := by decide +kernel
theorem dX11_span_126 : decode cX11_span 126 = .ok (.invokestatic 392, 3) := by decide +kernel
theorem dX11_span_129 : decode cX11_span 129 = .ok (.istore 7, 2) := by decide +kernel
theorem dX11_span_131 : decode cX11_span 131 = .ok (.iload 8, 2) := by decide +kernel
theorem dX11_span_133 : decode cX11_span 133 = .ok (.aload_n 0, 1) := by decide +kernel
theorem dX11_span_134 : decode cX11_span 134 = .ok (.getfield 97, 3) := by decide +kernel
theorem dX11_span_137 : decode cX11_span 137 = .ok (.getfield 413, 3) := by decide +kernel
theorem dX11_span_140 : decode cX11_span 140 = .ok (.getfield 206, 3) := by decide +kernel
theorem dX11_span_143 : decode cX11_span 143 = .ok (.invokestatic 419, 3) := by decide +kernel
theorem dX11_span_146 : decode cX11_span 146 = .ok (.istore 8, 2) := by decide +kernel
theorem dX11_span_148 : decode cX11_span 148 = .ok (.iload 9, 2) := by decide +kernel
theorem dX11_span_150 : decode cX11_span 150 = .ok (.aload_n 0, 1) := by decide +kernel
theorem dX11_span_151 : decode cX11_span 151 = .ok (.getfield 97, 3) := by decide +kernel
theorem dX11_span_154 : decode cX11_span 154 = .ok (.getfield 413, 3) := by decide +kernel
theorem dX11_span_157 : decode cX11_span 157 = .ok (.invokevirtual 222, 3) := by decide +kernel
theorem dX11_span_160 : decode cX11_span 160 = .ok (.iload 6, 2) := by decide +kernel
theorem dX11_span_162 : decode cX11_span 162 = .ok (.invokestatic 258, 3) := by decide +kernel
theorem dX11_span_165 : decode cX11_span 165 = .ok (.iadd, 1) := by decide +kernel
theorem dX11_span_166 : decode cX11_span 166 = .ok (.istore 9, 2) := by decide +kernel
theorem dX11_span_168 : decode cX11_span 168 = .ok (.iinc 10 1, 3) := by decide +kernel
theorem dX11_span_171 : decode cX11_span 171 = .ok (.goto (-81), 3) := by decide +kernel
theorem dX11_span_174 : decode cX11_span 174 = .ok (.iload 5, 2) := by decide +kernel
theorem dX11_span_176 : decode cX11_span 176 = .ok (.ifCond .ne 8, 3) := by decide +kernel
theorem dX11_span_179 : decode cX11_span 179 = .ok (.iload 7, 2) := by decide +kernel
theorem dX11_span_181 : decode cX11_span 181 = .ok (.goto 16, 3) := by decide +kernel
theorem dX11_span_184 : decode cX11_span 184 = .ok (.iload 5, 2) := by decide +kernel
theorem dX11_span_186 : decode cX11_span 186 = .ok (.iconst 1, 1) := by decide +kernel
theorem dX11_span_187 : decode cX11_span 187 = .ok (.if_icmp .ne 8, 3) := by decide +kernel
theorem dX11_span_190 : decode cX11_span 190 = .ok (.iload 8, 2) := by decide +kernel
theorem dX11_span_192 : decode cX11_span 192 = .ok (.goto 5, 3) := by decide +kernel
theorem dX11_span_195 : decode cX11_span 195 = .ok (.iload 9, 2) := by decide +kernel
theorem dX11_span_197 : decode cX11_span 197 = .ok (.ireturn, 1) := by decide +kernel
theorem dX11_image_0 : decode cX11_image 0 = .ok (.aload_n 0, 1) := by decide +kernel
theorem dX11_image_1 : decode cX11_image 1 = .ok (.getfield 63, 3) := by decide +kernel
theorem dX11_image_4 : decode cX11_image 4 = .ok (.invokevirtual 422, 3) := by decide +kernel
theorem dX11_image_7 : decode cX11_image 7 = .ok (.ifCond .ne 5, 3) := by decide +kernel
theorem dX11_image_10 : decode cX11_image 10 = .ok (.iconst (-1), 1) := by decide +kernel
theorem dX11_image_11 : decode cX11_image 11 = .ok (.ireturn, 1) := by decide +kernel
theorem dX11_image_12 : decode cX11_image 12 = .ok (.aload_n 0, 1) := by decide +kernel
theorem dX11_image_13 : decode cX11_image 13 = .ok (.getfield 63, 3) := by decide +kernel
theorem dX11_image_16 : decode cX11_image 16 = .ok (.aload_n 0, 1) := by decide +kernel
theorem dX11_image_17 : decode cX11_image 17 = .ok (.getfield 56, 3) := by decide +kernel
theorem dX11_image_20 : decode cX11_image 20 = .ok (.invokevirtual 425, 3) := by decide +kernel
theorem dX11_image_23 : decode cX11_image 23 = .ok (.aload_n 0, 1) := by decide +kernel
theorem dX11_image_24 : decode cX11_image 24 = .ok (.getfield 63, 3) := by decide +kernel
theorem dX11_image_27 : decode cX11_image 27 = .ok (.getfield 428, 3) := by decide +kernel
theorem dX11_image_30 : decode cX11_image 30 = .ok (.ireturn, 1) := by decide +kernel
theorem dX11_restore_0 : decode cX11_restore 0 = .ok (.aload_n 0, 1) := by decide +kernel
theorem dX11_restore_1 : decode cX11_restore 1 = .ok (.getfield 63, 3) := by decide +kernel
theorem dX11_restore_4 : decode cX11_restore 4 = .ok (.getfield 428, 3) := by decide +kernel
theorem dX11_restore_7 : decode cX11_restore 7 = .ok (.ifCond .gt 5, 3) := by decide +kernel
theorem dX11_restore_10 : decode cX11_restore 10 = .ok (.iconst (-1), 1) := by decide +kernel
theorem dX11_restore_11 : decode cX11_restore 11 = .ok (.ireturn, 1) := by decide +kernel
theorem dX11_restore_12 : decode cX11_restore 12 = .ok (.aload_n 0, 1) := by decide +kernel
theorem dX11_restore_13 : decode cX11_restore 13 = .ok (.getfield 63, 3) := by decide +kernel
theorem dX11_restore_16 : decode cX11_restore 16 = .ok (.aload_n 0, 1) := by decide +kernel
theorem dX11_restore_17 : decode cX11_restore 17 = .ok (.getfield 56, 3) := by decide +kernel
theorem dX11_restore_20 : decode cX11_restore 20 = .ok (.invokevirtual 431, 3) := by decide +kernel
theorem dX11_restore_23 : decode cX11_restore 23 = .ok (.aload_n 0, 1) := by decide +kernel
theorem dX11_restore_24 : decode cX11_restore 24 = .ok (.getfield 49, 3) := by decide +kernel
theorem dX11_restore_27 : decode cX11_restore 27 = .ok (.iconst 0, 1) := by decide +kernel
theorem dX11_restore_28 : decode cX11_restore 28 = .ok (.putfield 143, 3) := by decide +kernel
theorem dX11_restore_31 : decode cX11_restore 31 = .ok (.aload_n 0, 1) := by decide +kernel
theorem dX11_restore_32 : decode cX11_restore 32 = .ok (.getfield 81, 3) := by decide +kernel
theorem dX11_restore_35 : decode cX11_restore 35 = .ok (.invokevirtual 156, 3) := by decide +kernel
theorem dX11_restore_38 : decode cX11_restore 38 = .ok (.aload_n 0, 1) := by decide +kernel
theorem dX11_restore_39 : decode cX11_restore 39 = .ok (.getfield 63, 3) := by decide +kernel
theorem dX11_restore_42 : decode cX11_restore 42 = .ok (.getfield 428, 3) := by decide +kernel
theorem dX11_restore_45 : decode cX11_restore 45 = .ok (.ireturn, 1) := by decide +kernel
theorem dX11_status_0 : decode cX11_status 0 = .ok (.iload_n 1, 1) := by decide +kernel
theorem dX11_status_1 : decode cX11_status 1 = .ok (.ifCond .ne 10, 3) := by decide +kernel
theorem dX11_status_4 : decode cX11_status 4 = .ok (.aload_n 0, 1) := by decide +kernel
theorem dX11_status_5 : decode cX11_status 5 = .ok (.getfield 434, 3) := by decide +kernel
theorem dX11_status_8 : decode cX11_status 8 = .ok (.goto 16, 3) := by decide +kernel
theorem dX11_status_11 : decode cX11_status 11 = .ok (.iload_n 1, 1) := by decide +kernel
theorem dX11_status_12 : decode cX11_status 12 = .ok (.iconst 1, 1) := by decide +kernel
theorem dX11_status_13 : decode cX11_status 13 = .ok (.if_icmp .ne 10, 3) := by decide +kernel
theorem dX11_status_16 : decode cX11_status 16 = .ok (.aload_n 0, 1) := by decide +kernel
theorem dX11_status_17 : decode cX11_status 17 = .ok (.getfield 437, 3) := by decide +kernel
theorem dX11_status_20 : decode cX11_status 20 = .ok (.goto 4, 3) := by decide +kernel
theorem dX11_status_23 : decode cX11_status 23 = .ok (.iconst (-1), 1) := by decide +kernel
theorem dX11_status_24 : decode cX11_status 24 = .ok (.ireturn, 1) := by decide +kernel
theorem dX11_count_0 : decode cX11_count 0 = .ok (.iload_n 1, 1) := by decide +kernel
theorem dX11_count_1 : decode cX11_count 1 = .ok (.tableswitch 51 0 2 #[27, 35, 43], 27) := by decide +kernel
theorem dX11_count_28 : decode cX11_count 28 = .ok (.aload_n 0, 1) := by decide +kernel
theorem dX11_count_29 : decode cX11_count 29 = .ok (.getfield 63, 3) := by decide +kernel
theorem dX11_count_32 : decode cX11_count 32 = .ok (.getfield 428, 3) := by decide +kernel
theorem dX11_count_35 : decode cX11_count 35 = .ok (.ireturn, 1) := by decide +kernel
theorem dX11_count_36 : decode cX11_count 36 = .ok (.aload_n 0, 1) := by decide +kernel
theorem dX11_count_37 : decode cX11_count 37 = .ok (.getfield 10, 3) := by decide +kernel
theorem dX11_count_40 : decode cX11_count 40 = .ok (.getfield 116, 3) := by decide +kernel
theorem dX11_count_43 : decode cX11_count 43 = .ok (.ireturn, 1) := by decide +kernel
theorem dX11_count_44 : decode cX11_count 44 = .ok (.aload_n 0, 1) := by decide +kernel
theorem dX11_count_45 : decode cX11_count 45 = .ok (.getfield 63, 3) := by decide +kernel
theorem dX11_count_48 : decode cX11_count 48 = .ok (.getfield 183, 3) := by decide +kernel
theorem dX11_count_51 : decode cX11_count 51 = .ok (.ireturn, 1) := by decide +kernel
theorem dX11_count_52 : decode cX11_count 52 = .ok (.iconst (-1), 1) := by decide +kernel
theorem dX11_count_53 : decode cX11_count 53 = .ok (.ireturn, 1) := by decide +kernel
theorem dX11_open_0 : decode cX11_open 0 = .ok (.aload_n 0, 1) := by decide +kernel
theorem dX11_open_1 : decode cX11_open 1 = .ok (.iload_n 1, 1) := by decide +kernel
theorem dX11_open_2 : decode cX11_open 2 = .ok (.ifCond .lt 23, 3) := by decide +kernel
theorem dX11_open_5 : decode cX11_open 5 = .ok (.iload_n 1, 1) := by decide +kernel
theorem dX11_open_6 : decode cX11_open 6 = .ok (.iload_n 2, 1) := by decide +kernel
theorem dX11_open_7 : decode cX11_open 7 = .ok (.if_icmp .gt 18, 3) := by decide +kernel
theorem dX11_open_10 : decode cX11_open 10 = .ok (.iload_n 1, 1) := by decide +kernel
theorem dX11_open_11 : decode cX11_open 11 = .ok (.aload_n 0, 1) := by decide +kernel
theorem dX11_open_12 : decode cX11_open 12 = .ok (.getfield 10, 3) := by decide +kernel
theorem dX11_open_15 : decode cX11_open 15 = .ok (.getfield 116, 3) := by decide +kernel
theorem dX11_open_18 : decode cX11_open 18 = .ok (.if_icmp .gt 7, 3) := by decide +kernel
theorem dX11_open_21 : decode cX11_open 21 = .ok (.iconst 1, 1) := by decide +kernel
theorem dX11_open_22 : decode cX11_open 22 = .ok (.goto 4, 3) := by decide +kernel
theorem dX11_open_25 : decode cX11_open 25 = .ok (.iconst 0, 1) := by decide +kernel
theorem dX11_open_26 : decode cX11_open 26 = .ok (.invokevirtual 193, 3) := by decide +kernel
theorem dX11_open_29 : decode cX11_open 29 = .ok (.aload_n 0, 1) := by decide +kernel
theorem dX11_open_30 : decode cX11_open 30 = .ok (.getfield 10, 3) := by decide +kernel
theorem dX11_open_33 : decode cX11_open 33 = .ok (.iload_n 1, 1) := by decide +kernel
theorem dX11_open_34 : decode cX11_open 34 = .ok (.invokevirtual 440, 3) := by decide +kernel
theorem dX11_open_37 : decode cX11_open 37 = .ok (.return_, 1) := by decide +kernel
theorem dX11_expect_0 : decode cX11_expect 0 = .ok (.iload_n 1, 1) := by decide +kernel
theorem dX11_expect_1 : decode cX11_expect 1 = .ok (.ifCond .ne 24, 3) := by decide +kernel
theorem dX11_expect_4 : decode cX11_expect 4 = .ok (.aload_n 0, 1) := by decide +kernel
theorem dX11_expect_5 : decode cX11_expect 5 = .ok (.dup, 1) := by decide +kernel
theorem dX11_expect_6 : decode cX11_expect 6 = .ok (.getfield 437, 3) := by decide +kernel
theorem dX11_expect_9 : decode cX11_expect 9 = .ok (.iconst 1, 1) := by decide +kernel
theorem dX11_expect_10 : decode cX11_expect 10 = .ok (.iadd, 1) := by decide +kernel
theorem dX11_expect_11 : decode cX11_expect 11 = .ok (.putfield 437, 3) := by decide +kernel
theorem dX11_expect_14 : decode cX11_expect 14 = .ok (.new 441, 3) := by decide +kernel
theorem dX11_expect_17 : decode cX11_expect 17 = .ok (.dup, 1) := by decide +kernel
theorem dX11_expect_18 : decode cX11_expect 18 = .ok (.ldc_w 443, 3) := by decide +kernel
theorem dX11_expect_21 : decode cX11_expect 21 = .ok (.invokespecial 445, 3) := by decide +kernel
theorem dX11_expect_24 : decode cX11_expect 24 = .ok (.athrow, 1) := by decide +kernel
theorem dX11_expect_25 : decode cX11_expect 25 = .ok (.return_, 1) := by decide +kernel
theorem dX11_expectThere_0 : decode cX11_expectThere 0 = .ok (.iload_n 1, 1) := by decide +kernel
theorem dX11_expectThere_1 : decode cX11_expectThere 1 = .ok (.ifCond .ne 24, 3) := by decide +kernel
theorem dX11_expectThere_4 : decode cX11_expectThere 4 = .ok (.aload_n 0, 1) := by decide +kernel
theorem dX11_expectThere_5 : decode cX11_expectThere 5 = .ok (.dup, 1) := by decide +kernel
theorem dX11_expectThere_6 : decode cX11_expectThere 6 = .ok (.getfield 434, 3) := by decide +kernel
theorem dX11_expectThere_9 : decode cX11_expectThere 9 = .ok (.iconst 1, 1) := by decide +kernel
theorem dX11_expectThere_10 : decode cX11_expectThere 10 = .ok (.iadd, 1) := by decide +kernel
theorem dX11_expectThere_11 : decode cX11_expectThere 11 = .ok (.putfield 434, 3) := by decide +kernel
theorem dX11_expectThere_14 : decode cX11_expectThere 14 = .ok (.new 448, 3) := by decide +kernel
theorem dX11_expectThere_17 : decode cX11_expectThere 17 = .ok (.dup, 1) := by decide +kernel
theorem dX11_expectThere_18 : decode cX11_expectThere 18 = .ok (.ldc_w 450, 3) := by decide +kernel
theorem dX11_expectThere_21 : decode cX11_expectThere 21 = .ok (.invokespecial 452, 3) := by decide +kernel
theorem dX11_expectThere_24 : decode cX11_expectThere 24 = .ok (.athrow, 1) := by decide +kernel
theorem dX11_expectThere_25 : decode cX11_expectThere 25 = .ok (.return_, 1) := by decide +kernel
theorem dX11_expectPiece_0 : decode cX11_expectPiece 0 = .ok (.aload_n 0, 1) := by decide +kernel
theorem dX11_expectPiece_1 : decode cX11_expectPiece 1 = .ok (.iload_n 1, 1) := by decide +kernel
theorem dX11_expectPiece_2 : decode cX11_expectPiece 2 = .ok (.iconst 0, 1) := by decide +kernel
theorem dX11_expectPiece_3 : decode cX11_expectPiece 3 = .ok (.aload_n 0, 1) := by decide +kernel
theorem dX11_expectPiece_4 : decode cX11_expectPiece 4 = .ok (.getfield 19, 3) := by decide +kernel
theorem dX11_expectPiece_7 : decode cX11_expectPiece 7 = .ok (.getfield 149, 3) := by decide +kernel
theorem dX11_expectPiece_10 : decode cX11_expectPiece 10 = .ok (.iconst 1, 1) := by decide +kernel
theorem dX11_expectPiece_11 : decode cX11_expectPiece 11 = .ok (.isub, 1) := by decide +kernel
theorem dX11_expectPiece_12 : decode cX11_expectPiece 12 = .ok (.invokestatic 189, 3) := by decide +kernel
theorem dX11_expectPiece_15 : decode cX11_expectPiece 15 = .ok (.invokevirtual 265, 3) := by decide +kernel
theorem dX11_expectPiece_18 : decode cX11_expectPiece 18 = .ok (.return_, 1) := by decide +kernel
theorem dX11_expectFire_0 : decode cX11_expectFire 0 = .ok (.aload_n 0, 1) := by decide +kernel
theorem dX11_expectFire_1 : decode cX11_expectFire 1 = .ok (.iload_n 1, 1) := by decide +kernel
theorem dX11_expectFire_2 : decode cX11_expectFire 2 = .ok (.iconst 0, 1) := by decide +kernel
theorem dX11_expectFire_3 : decode cX11_expectFire 3 = .ok (.aload_n 0, 1) := by decide +kernel
theorem dX11_expectFire_4 : decode cX11_expectFire 4 = .ok (.getfield 19, 3) := by decide +kernel
theorem dX11_expectFire_7 : decode cX11_expectFire 7 = .ok (.getfield 200, 3) := by decide +kernel
theorem dX11_expectFire_10 : decode cX11_expectFire 10 = .ok (.iconst 1, 1) := by decide +kernel
theorem dX11_expectFire_11 : decode cX11_expectFire 11 = .ok (.isub, 1) := by decide +kernel
theorem dX11_expectFire_12 : decode cX11_expectFire 12 = .ok (.invokestatic 189, 3) := by decide +kernel
theorem dX11_expectFire_15 : decode cX11_expectFire 15 = .ok (.invokevirtual 265, 3) := by decide +kernel
theorem dX11_expectFire_18 : decode cX11_expectFire 18 = .ok (.return_, 1) := by decide +kernel
theorem dX11_expectThread_0 : decode cX11_expectThread 0 = .ok (.aload_n 0, 1) := by decide +kernel
theorem dX11_expectThread_1 : decode cX11_expectThread 1 = .ok (.iload_n 1, 1) := by decide +kernel
theorem dX11_expectThread_2 : decode cX11_expectThread 2 = .ok (.iconst 0, 1) := by decide +kernel
theorem dX11_expectThread_3 : decode cX11_expectThread 3 = .ok (.bipush 9, 2) := by decide +kernel
theorem dX11_expectThread_5 : decode cX11_expectThread 5 = .ok (.invokestatic 189, 3) := by decide +kernel
theorem dX11_expectThread_8 : decode cX11_expectThread 8 = .ok (.invokevirtual 193, 3) := by decide +kernel
theorem dX11_expectThread_11 : decode cX11_expectThread 11 = .ok (.return_, 1) := by decide +kernel
theorem dX11_within_0 : decode cX11_within 0 = .ok (.iload_n 0, 1) := by decide +kernel
theorem dX11_within_1 : decode cX11_within 1 = .ok (.iload_n 1, 1) := by decide +kernel
theorem dX11_within_2 : decode cX11_within 2 = .ok (.if_icmp .lt 12, 3) := by decide +kernel
theorem dX11_within_5 : decode cX11_within 5 = .ok (.iload_n 0, 1) := by decide +kernel
theorem dX11_within_6 : decode cX11_within 6 = .ok (.iload_n 2, 1) := by decide +kernel
theorem dX11_within_7 : decode cX11_within 7 = .ok (.if_icmp .gt 7, 3) := by decide +kernel
theorem dX11_within_10 : decode cX11_within 10 = .ok (.iconst 1, 1) := by decide +kernel
theorem dX11_within_11 : decode cX11_within 11 = .ok (.goto 4, 3) := by decide +kernel
theorem dX11_within_14 : decode cX11_within 14 = .ok (.iconst 0, 1) := by decide +kernel
theorem dX11_within_15 : decode cX11_within 15 = .ok (.ireturn, 1) := by decide +kernel
theorem dX11_bit_0 : decode cX11_bit 0 = .ok (.iload_n 0, 1) := by decide +kernel
theorem dX11_bit_1 : decode cX11_bit 1 = .ok (.iload_n 1, 1) := by decide +kernel
theorem dX11_bit_2 : decode cX11_bit 2 = .ok (.ishr, 1) := by decide +kernel
theorem dX11_bit_3 : decode cX11_bit 3 = .ok (.iconst 1, 1) := by decide +kernel
theorem dX11_bit_4 : decode cX11_bit 4 = .ok (.iand, 1) := by decide +kernel
theorem dX11_bit_5 : decode cX11_bit 5 = .ok (.ireturn, 1) := by decide +kernel
theorem dX11_pick_0 : decode cX11_pick 0 = .ok (.iload_n 1, 1) := by decide +kernel
theorem dX11_pick_1 : decode cX11_pick 1 = .ok (.ifCond .lt 15, 3) := by decide +kernel
theorem dX11_pick_4 : decode cX11_pick 4 = .ok (.iload_n 1, 1) := by decide +kernel
theorem dX11_pick_5 : decode cX11_pick 5 = .ok (.aload_n 0, 1) := by decide +kernel
theorem dX11_pick_6 : decode cX11_pick 6 = .ok (.arraylength, 1) := by decide +kernel
theorem dX11_pick_7 : decode cX11_pick 7 = .ok (.if_icmp .ge 9, 3) := by decide +kernel
theorem dX11_pick_10 : decode cX11_pick 10 = .ok (.aload_n 0, 1) := by decide +kernel
theorem dX11_pick_11 : decode cX11_pick 11 = .ok (.iload_n 1, 1) := by decide +kernel
theorem dX11_pick_12 : decode cX11_pick 12 = .ok (.iaload, 1) := by decide +kernel
theorem dX11_pick_13 : decode cX11_pick 13 = .ok (.goto 4, 3) := by decide +kernel
theorem dX11_pick_16 : decode cX11_pick 16 = .ok (.iconst 0, 1) := by decide +kernel
theorem dX11_pick_17 : decode cX11_pick 17 = .ok (.ireturn, 1) := by decide +kernel
theorem dX11_put_0 : decode cX11_put 0 = .ok (.iload_n 1, 1) := by decide +kernel
theorem dX11_put_1 : decode cX11_put 1 = .ok (.ifCond .lt 13, 3) := by decide +kernel
theorem dX11_put_4 : decode cX11_put 4 = .ok (.iload_n 1, 1) := by decide +kernel
theorem dX11_put_5 : decode cX11_put 5 = .ok (.aload_n 0, 1) := by decide +kernel
theorem dX11_put_6 : decode cX11_put 6 = .ok (.arraylength, 1) := by decide +kernel
theorem dX11_put_7 : decode cX11_put 7 = .ok (.if_icmp .ge 7, 3) := by decide +kernel
theorem dX11_put_10 : decode cX11_put 10 = .ok (.aload_n 0, 1) := by decide +kernel
theorem dX11_put_11 : decode cX11_put 11 = .ok (.iload_n 1, 1) := by decide +kernel
theorem dX11_put_12 : decode cX11_put 12 = .ok (.iload_n 2, 1) := by decide +kernel
theorem dX11_put_13 : decode cX11_put 13 = .ok (.iastore, 1) := by decide +kernel
theorem dX11_put_14 : decode cX11_put 14 = .ok (.return_, 1) := by decide +kernel
theorem dX12_init_0 : decode cX12_init 0 = .ok (.aload_n 0, 1) := by decide +kernel
theorem dX12_init_1 : decode cX12_init 1 = .ok (.invokespecial 1, 3) := by decide +kernel
theorem dX12_init_4 : decode cX12_init 4 = .ok (.aload_n 0, 1) := by decide +kernel
theorem dX12_init_5 : decode cX12_init 5 = .ok (.iconst (-1), 1) := by decide +kernel
theorem dX12_init_6 : decode cX12_init 6 = .ok (.putfield 9, 3) := by decide +kernel
theorem dX12_init_9 : decode cX12_init 9 = .ok (.aload_n 0, 1) := by decide +kernel
theorem dX12_init_10 : decode cX12_init 10 = .ok (.sipush 600, 3) := by decide +kernel
theorem dX12_init_13 : decode cX12_init 13 = .ok (.newarray .int, 2) := by decide +kernel
theorem dX12_init_15 : decode cX12_init 15 = .ok (.putfield 13, 3) := by decide +kernel
theorem dX12_init_18 : decode cX12_init 18 = .ok (.aload_n 0, 1) := by decide +kernel
theorem dX12_init_19 : decode cX12_init 19 = .ok (.iconst 2, 1) := by decide +kernel
theorem dX12_init_20 : decode cX12_init 20 = .ok (.newarray .int, 2) := by decide +kernel
theorem dX12_init_22 : decode cX12_init 22 = .ok (.putfield 17, 3) := by decide +kernel
theorem dX12_init_25 : decode cX12_init 25 = .ok (.aload_n 0, 1) := by decide +kernel
theorem dX12_init_26 : decode cX12_init 26 = .ok (.iconst 4, 1) := by decide +kernel
theorem dX12_init_27 : decode cX12_init 27 = .ok (.newarray .int, 2) := by decide +kernel
theorem dX12_init_29 : decode cX12_init 29 = .ok (.putfield 20, 3) := by decide +kernel
theorem dX12_init_32 : decode cX12_init 32 = .ok (.aload_n 0, 1) := by decide +kernel
theorem dX12_init_33 : decode cX12_init 33 = .ok (.iconst 4, 1) := by decide +kernel
theorem dX12_init_34 : decode cX12_init 34 = .ok (.newarray .int, 2) := by decide +kernel
theorem dX12_init_36 : decode cX12_init 36 = .ok (.putfield 23, 3) := by decide +kernel
theorem dX12_init_39 : decode cX12_init 39 = .ok (.aload_n 0, 1) := by decide +kernel
theorem dX12_init_40 : decode cX12_init 40 = .ok (.bipush 6, 2) := by decide +kernel
theorem dX12_init_42 : decode cX12_init 42 = .ok (.iconst 4, 1) := by decide +kernel
theorem dX12_init_43 : decode cX12_init 43 = .ok (.multianewarray 26 2, 4) := by decide +kernel
theorem dX12_init_47 : decode cX12_init 47 = .ok (.putfield 28, 3) := by decide +kernel
theorem dX12_init_50 : decode cX12_init 50 = .ok (.aload_n 0, 1) := by decide +kernel
theorem dX12_init_51 : decode cX12_init 51 = .ok (.bipush 6, 2) := by decide +kernel
theorem dX12_init_53 : decode cX12_init 53 = .ok (.iconst 4, 1) := by decide +kernel
theorem dX12_init_54 : decode cX12_init 54 = .ok (.multianewarray 26 2, 4) := by decide +kernel
theorem dX12_init_58 : decode cX12_init 58 = .ok (.putfield 31, 3) := by decide +kernel
theorem dX12_init_61 : decode cX12_init 61 = .ok (.aload_n 0, 1) := by decide +kernel
theorem dX12_init_62 : decode cX12_init 62 = .ok (.iconst 4, 1) := by decide +kernel
theorem dX12_init_63 : decode cX12_init 63 = .ok (.iconst 2, 1) := by decide +kernel
theorem dX12_init_64 : decode cX12_init 64 = .ok (.multianewarray 26 2, 4) := by decide +kernel
theorem dX12_init_68 : decode cX12_init 68 = .ok (.putfield 34, 3) := by decide +kernel
theorem dX12_init_71 : decode cX12_init 71 = .ok (.aload_n 0, 1) := by decide +kernel
theorem dX12_init_72 : decode cX12_init 72 = .ok (.iconst 5, 1) := by decide +kernel
theorem dX12_init_73 : decode cX12_init 73 = .ok (.iconst 2, 1) := by decide +kernel
theorem dX12_init_74 : decode cX12_init 74 = .ok (.multianewarray 26 2, 4) := by decide +kernel
theorem dX12_init_78 : decode cX12_init 78 = .ok (.putfield 37, 3) := by decide +kernel
theorem dX12_init_81 : decode cX12_init 81 = .ok (.aload_n 0, 1) := by decide +kernel
theorem dX12_init_82 : decode cX12_init 82 = .ok (.iconst 5, 1) := by decide +kernel
theorem dX12_init_83 : decode cX12_init 83 = .ok (.iconst 2, 1) := by decide +kernel
theorem dX12_init_84 : decode cX12_init 84 = .ok (.multianewarray 26 2, 4) := by decide +kernel
theorem dX12_init_88 : decode cX12_init 88 = .ok (.putfield 40, 3) := by decide +kernel
theorem dX12_init_91 : decode cX12_init 91 = .ok (.aload_n 0, 1) := by decide +kernel
theorem dX12_init_92 : decode cX12_init 92 = .ok (.iconst 5, 1) := by decide +kernel
theorem dX12_init_93 : decode cX12_init 93 = .ok (.iconst 2, 1) := by decide +kernel
theorem dX12_init_94 : decode cX12_init 94 = .ok (.multianewarray 26 2, 4) := by decide +kernel
theorem dX12_init_98 : decode cX12_init 98 = .ok (.putfield 43, 3) := by decide +kernel
theorem dX12_init_101 : decode cX12_init 101 = .ok (.aload_n 0, 1) := by decide +kernel
theorem dX12_init_102 : decode cX12_init 102 = .ok (.sipush 160, 3) := by decide +kernel
theorem dX12_init_105 : decode cX12_init 105 = .ok (.iconst 2, 1) := by decide +kernel
theorem dX12_init_106 : decode cX12_init 106 = .ok (.multianewarray 26 2, 4) := by decide +kernel
theorem dX12_init_110 : decode cX12_init 110 = .ok (.putfield 46, 3) := by decide +kernel
theorem dX12_init_113 : decode cX12_init 113 = .ok (.aload_n 0, 1) := by decide +kernel
theorem dX12_init_114 : decode cX12_init 114 = .ok (.sipush 160, 3) := by decide +kernel
theorem dX12_init_117 : decode cX12_init 117 = .ok (.iconst 2, 1) := by decide +kernel
theorem dX12_init_118 : decode cX12_init 118 = .ok (.multianewarray 26 2, 4) := by decide +kernel
theorem dX12_init_122 : decode cX12_init 122 = .ok (.putfield 49, 3) := by decide +kernel
theorem dX12_init_125 : decode cX12_init 125 = .ok (.aload_n 0, 1) := by decide +kernel
theorem dX12_init_126 : decode cX12_init 126 = .ok (.bipush 6, 2) := by decide +kernel
theorem dX12_init_128 : decode cX12_init 128 = .ok (.iconst 2, 1) := by decide +kernel
theorem dX12_init_129 : decode cX12_init 129 = .ok (.multianewarray 26 2, 4) := by decide +kernel
theorem dX12_init_133 : decode cX12_init 133 = .ok (.putfield 52, 3) := by decide +kernel
theorem dX12_init_136 : decode cX12_init 136 = .ok (.aload_n 0, 1) := by decide +kernel
theorem dX12_init_137 : decode cX12_init 137 = .ok (.bipush 6, 2) := by decide +kernel
theorem dX12_init_139 : decode cX12_init 139 = .ok (.iconst 2, 1) := by decide +kernel
theorem dX12_init_140 : decode cX12_init 140 = .ok (.multianewarray 26 2, 4) := by decide +kernel
theorem dX12_init_144 : decode cX12_init 144 = .ok (.putfield 55, 3) := by decide +kernel
theorem dX12_init_147 : decode cX12_init 147 = .ok (.aload_n 0, 1) := by decide +kernel
theorem dX12_init_148 : decode cX12_init 148 = .ok (.sipush 160, 3) := by decide +kernel
theorem dX12_init_151 : decode cX12_init 151 = .ok (.newarray .int, 2) := by decide +kernel
theorem dX12_init_153 : decode cX12_init 153 = .ok (.putfield 58, 3) := by decide +kernel
theorem dX12_init_156 : decode cX12_init 156 = .ok (.aload_n 0, 1) := by decide +kernel
theorem dX12_init_157 : decode cX12_init 157 = .ok (.bipush 9, 2) := by decide +kernel
theorem dX12_init_159 : decode cX12_init 159 = .ok (.newarray .int, 2) := by decide +kernel
theorem dX12_init_161 : decode cX12_init 161 = .ok (.putfield 61, 3) := by decide +kernel
theorem dX12_init_164 : decode cX12_init 164 = .ok (.aload_n 0, 1) := by decide +kernel
theorem dX12_init_165 : decode cX12_init 165 = .ok (.bipush 80, 2) := by decide +kernel
theorem dX12_init_167 : decode cX12_init 167 = .ok (.iconst 4, 1) := by decide +kernel
theorem dX12_init_168 : decode cX12_init 168 = .ok (.multianewarray 26 2, 4) := by decide +kernel
theorem dX12_init_172 : decode cX12_init 172 = .ok (.putfield 64, 3) := by decide +kernel
theorem dX12_init_175 : decode cX12_init 175 = .ok (.aload_n 0, 1) := by decide +kernel
theorem dX12_init_176 : decode cX12_init 176 = .ok (.bipush 31, 2) := by decide +kernel
theorem dX12_init_178 : decode cX12_init 178 = .ok (.newarray .int, 2) := by decide +kernel
theorem dX12_init_180 : decode cX12_init 180 = .ok (.putfield 67, 3) := by decide +kernel
theorem dX12_init_183 : decode cX12_init 183 = .ok (.aload_n 0, 1) := by decide +kernel
theorem dX12_init_184 : decode cX12_init 184 = .ok (.bipush 31, 2) := by decide +kernel
theorem dX12_init_186 : decode cX12_init 186 = .ok (.newarray .int, 2) := by decide +kernel
theorem dX12_init_188 : decode cX12_init 188 = .ok (.putfield 70, 3) := by decide +kernel
theorem dX12_init_191 : decode cX12_init 191 = .ok (.aload_n 0, 1) := by decide +kernel
theorem dX12_init_192 : decode cX12_init 192 = .ok (.bipush 6, 2) := by decide +kernel
theorem dX12_init_194 : decode cX12_init 194 = .ok (.newarray .int, 2) := by decide +kernel
theorem dX12_init_196 : decode cX12_init 196 = .ok (.putfield 73, 3) := by decide +kernel
theorem dX12_init_199 : decode cX12_init 199 = .ok (.aload_n 0, 1) := by decide +kernel
theorem dX12_init_200 : decode cX12_init 200 = .ok (.bipush 16, 2) := by decide +kernel
theorem dX12_init_202 : decode cX12_init 202 = .ok (.bipush 31, 2) := by decide +kernel
theorem dX12_init_204 : decode cX12_init 204 = .ok (.multianewarray 26 2, 4) := by decide +kernel
theorem dX12_init_208 : decode cX12_init 208 = .ok (.putfield 76, 3) := by decide +kernel
theorem dX12_init_211 : decode cX12_init 211 = .ok (.aload_n 0, 1) := by decide +kernel
theorem dX12_init_212 : decode cX12_init 212 = .ok (.iconst 3, 1) := by decide +kernel
theorem dX12_init_213 : decode cX12_init 213 = .ok (.sipush 528, 3) := by decide +kernel
theorem dX12_init_216 : decode cX12_init 216 = .ok (.multianewarray 26 2, 4) := by decide +kernel
theorem dX12_init_220 : decode cX12_init 220 = .ok (.putfield 79, 3) := by decide +kernel
theorem dX12_init_223 : decode cX12_init 223 = .ok (.aload_n 0, 1) := by decide +kernel
theorem dX12_init_224 : decode cX12_init 224 = .ok (.bipush 64, 2) := by decide +kernel
theorem dX12_init_226 : decode cX12_init 226 = .ok (.bipush 12, 2) := by decide +kernel
theorem dX12_init_228 : decode cX12_init 228 = .ok (.multianewarray 26 2, 4) := by decide +kernel
theorem dX12_init_232 : decode cX12_init 232 = .ok (.putfield 82, 3) := by decide +kernel
theorem dX12_init_235 : decode cX12_init 235 = .ok (.aload_n 0, 1) := by decide +kernel
theorem dX12_init_236 : decode cX12_init 236 = .ok (.bipush 6, 2) := by decide +kernel
theorem dX12_init_238 : decode cX12_init 238 = .ok (.newarray .int, 2) := by decide +kernel
theorem dX12_init_240 : decode cX12_init 240 = .ok (.putfield 85, 3) := by decide +kernel
theorem dX12_init_243 : decode cX12_init 243 = .ok (.aload_n 0, 1) := by decide +kernel
theorem dX12_init_244 : decode cX12_init 244 = .ok (.sipush 2816, 3) := by decide +kernel
theorem dX12_init_247 : decode cX12_init 247 = .ok (.newarray .int, 2) := by decide +kernel
theorem dX12_init_249 : decode cX12_init 249 = .ok (.putfield 88, 3) := by decide +kernel
theorem dX12_init_252 : decode cX12_init 252 = .ok (.aload_n 0, 1) := by decide +kernel
theorem dX12_init_253 : decode cX12_init 253 = .ok (.bipush 6, 2) := by decide +kernel
theorem dX12_init_255 : decode cX12_init 255 = .ok (.newarray .int, 2) := by decide +kernel
theorem dX12_init_257 : decode cX12_init 257 = .ok (.putfield 91, 3) := by decide +kernel
theorem dX12_init_260 : decode cX12_init 260 = .ok (.aload_n 0, 1) := by decide +kernel
theorem dX12_init_261 : decode cX12_init 261 = .ok (.bipush 6, 2) := by decide +kernel
theorem dX12_init_263 : decode cX12_init 263 = .ok (.bipush 100, 2) := by decide +kernel
theorem dX12_init_265 : decode cX12_init 265 = .ok (.multianewarray 26 2, 4) := by decide +kernel
theorem dX12_init_269 : decode cX12_init 269 = .ok (.putfield 94, 3) := by decide +kernel
theorem dX12_init_272 : decode cX12_init 272 = .ok (.aload_n 0, 1) := by decide +kernel
theorem dX12_init_273 : decode cX12_init 273 = .ok (.invokevirtual 97, 3) := by decide +kernel
theorem dX12_init_276 : decode cX12_init 276 = .ok (.aload_n 0, 1) := by decide +kernel
theorem dX12_init_277 : decode cX12_init 277 = .ok (.invokevirtual 100, 3) := by decide +kernel
theorem dX12_init_280 : decode cX12_init 280 = .ok (.return_, 1) := by decide +kernel
theorem dX12_tellsNothing_0 : decode cX12_tellsNothing 0 = .ok (.iconst 0, 1) := by decide +kernel
theorem dX12_tellsNothing_1 : decode cX12_tellsNothing 1 = .ok (.istore_n 1, 1) := by decide +kernel
theorem dX12_tellsNothing_2 : decode cX12_tellsNothing 2 = .ok (.iload_n 1, 1) := by decide +kernel
theorem dX12_tellsNothing_3 : decode cX12_tellsNothing 3 = .ok (.iconst 3, 1) := by decide +kernel
theorem dX12_tellsNothing_4 : decode cX12_tellsNothing 4 = .ok (.if_icmp .ge 16, 3) := by decide +kernel
theorem dX12_tellsNothing_7 : decode cX12_tellsNothing 7 = .ok (.aload_n 0, 1) := by decide +kernel
theorem dX12_tellsNothing_8 : decode cX12_tellsNothing 8 = .ok (.getfield 20, 3) := by decide +kernel
theorem dX12_tellsNothing_11 : decode cX12_tellsNothing 11 = .ok (.iload_n 1, 1) := by decide +kernel
theorem dX12_tellsNothing_12 : decode cX12_tellsNothing 12 = .ok (.iconst 0, 1) := by decide +kernel
theorem dX12_tellsNothing_13 : decode cX12_tellsNothing 13 = .ok (.iastore, 1) := by decide +kernel
theorem dX12_tellsNothing_14 : decode cX12_tellsNothing 14 = .ok (.iinc 1 1, 3) := by decide +kernel
theorem dX12_tellsNothing_17 : decode cX12_tellsNothing 17 = .ok (.goto (-15), 3) := by decide +kernel
theorem dX12_tellsNothing_20 : decode cX12_tellsNothing 20 = .ok (.aload_n 0, 1) := by decide +kernel
theorem dX12_tellsNothing_21 : decode cX12_tellsNothing 21 = .ok (.getfield 20, 3) := by decide +kernel
theorem dX12_tellsNothing_24 : decode cX12_tellsNothing 24 = .ok (.iconst 3, 1) := by decide +kernel
theorem dX12_tellsNothing_25 : decode cX12_tellsNothing 25 = .ok (.bipush 60, 2) := by decide +kernel
theorem dX12_tellsNothing_27 : decode cX12_tellsNothing 27 = .ok (.iastore, 1) := by decide +kernel
theorem dX12_tellsNothing_28 : decode cX12_tellsNothing 28 = .ok (.return_, 1) := by decide +kernel
theorem dX12_thrown_0 : decode cX12_thrown 0 = .ok (.aload_n 0, 1) := by decide +kernel
theorem dX12_thrown_1 : decode cX12_thrown 1 = .ok (.getfield 103, 3) := by decide +kernel
theorem dX12_thrown_4 : decode cX12_thrown 4 = .ok (.ireturn, 1) := by decide +kernel
theorem dX12_bad_0 : decode cX12_bad 0 = .ok (.iload_n 1, 1) := by decide +kernel
theorem dX12_bad_1 : decode cX12_bad 1 = .ok (.ifCond .eq 25, 3) := by decide +kernel
theorem dX12_bad_4 : decode cX12_bad 4 = .ok (.aload_n 0, 1) := by decide +kernel
theorem dX12_bad_5 : decode cX12_bad 5 = .ok (.getfield 103, 3) := by decide +kernel
theorem dX12_bad_8 : decode cX12_bad 8 = .ok (.ifCond .ne 18, 3) := by decide +kernel
theorem dX12_bad_11 : decode cX12_bad 11 = .ok (.aload_n 0, 1) := by decide +kernel
theorem dX12_bad_12 : decode cX12_bad 12 = .ok (.iload_n 2, 1) := by decide +kernel
theorem dX12_bad_13 : decode cX12_bad 13 = .ok (.putfield 103, 3) := by decide +kernel
theorem dX12_bad_16 : decode cX12_bad 16 = .ok (.aload_n 0, 1) := by decide +kernel
theorem dX12_bad_17 : decode cX12_bad 17 = .ok (.getfield 17, 3) := by decide +kernel
theorem dX12_bad_20 : decode cX12_bad 20 = .ok (.iload_n 3, 1) := by decide +kernel
theorem dX12_bad_21 : decode cX12_bad 21 = .ok (.dup2, 1) := by decide +kernel
theorem dX12_bad_22 : decode cX12_bad 22 = .ok (.iaload, 1) := by decide +kernel
theorem dX12_bad_23 : decode cX12_bad 23 = .ok (.iconst 1, 1) := by decide +kernel
theorem dX12_bad_24 : decode cX12_bad 24 = .ok (.iadd, 1) := by decide +kernel
theorem dX12_bad_25 : decode cX12_bad 25 = .ok (.iastore, 1) := by decide +kernel
theorem dX12_bad_26 : decode cX12_bad 26 = .ok (.aload_n 0, 1) := by decide +kernel
theorem dX12_bad_27 : decode cX12_bad 27 = .ok (.getfield 103, 3) := by decide +kernel
theorem dX12_bad_30 : decode cX12_bad 30 = .ok (.ifCond .eq 7, 3) := by decide +kernel
theorem dX12_bad_33 : decode cX12_bad 33 = .ok (.iconst 1, 1) := by decide +kernel
theorem dX12_bad_34 : decode cX12_bad 34 = .ok (.goto 4, 3) := by decide +kernel
theorem dX12_bad_37 : decode cX12_bad 37 = .ok (.iconst 0, 1) := by decide +kernel
theorem dX12_bad_38 : decode cX12_bad 38 = .ok (.ireturn, 1) := by decide +kernel
theorem dX12_in_0 : decode cX12_in 0 = .ok (.iload_n 0, 1) := by decide +kernel
theorem dX12_in_1 : decode cX12_in 1 = .ok (.iload_n 1, 1) := by decide +kernel
theorem dX12_in_2 : decode cX12_in 2 = .ok (.if_icmp .lt 12, 3) := by decide +kernel
theorem dX12_in_5 : decode cX12_in 5 = .ok (.iload_n 0, 1) := by decide +kernel
theorem dX12_in_6 : decode cX12_in 6 = .ok (.iload_n 2, 1) := by decide +kernel
theorem dX12_in_7 : decode cX12_in 7 = .ok (.if_icmp .gt 7, 3) := by decide +kernel
theorem dX12_in_10 : decode cX12_in 10 = .ok (.iconst 1, 1) := by decide +kernel
theorem dX12_in_11 : decode cX12_in 11 = .ok (.goto 4, 3) := by decide +kernel
theorem dX12_in_14 : decode cX12_in 14 = .ok (.iconst 0, 1) := by decide +kernel
theorem dX12_in_15 : decode cX12_in 15 = .ok (.ireturn, 1) := by decide +kernel
theorem dX12_less_0 : decode cX12_less 0 = .ok (.iload_n 0, 1) := by decide +kernel
theorem dX12_less_1 : decode cX12_less 1 = .ok (.iload_n 1, 1) := by decide +kernel
theorem dX12_less_2 : decode cX12_less 2 = .ok (.if_icmp .ge 7, 3) := by decide +kernel
theorem dX12_less_5 : decode cX12_less 5 = .ok (.iload_n 0, 1) := by decide +kernel
theorem dX12_less_6 : decode cX12_less 6 = .ok (.goto 4, 3) := by decide +kernel
theorem dX12_less_9 : decode cX12_less 9 = .ok (.iload_n 1, 1) := by decide +kernel
theorem dX12_less_10 : decode cX12_less 10 = .ok (.ireturn, 1) := by decide +kernel
theorem dX12_more_0 : decode cX12_more 0 = .ok (.iload_n 0, 1) := by decide +kernel
theorem dX12_more_1 : decode cX12_more 1 = .ok (.iload_n 1, 1) := by decide +kernel
theorem dX12_more_2 : decode cX12_more 2 = .ok (.if_icmp .le 7, 3) := by decide +kernel
theorem dX12_more_5 : decode cX12_more 5 = .ok (.iload_n 0, 1) := by decide +kernel
theorem dX12_more_6 : decode cX12_more 6 = .ok (.goto 4, 3) := by decide +kernel
theorem dX12_more_9 : decode cX12_more 9 = .ok (.iload_n 1, 1) := by decide +kernel
theorem dX12_more_10 : decode cX12_more 10 = .ok (.ireturn, 1) := by decide +kernel
theorem dX12_has_0 : decode cX12_has 0 = .ok (.iload_n 0, 1) := by decide +kernel
theorem dX12_has_1 : decode cX12_has 1 = .ok (.iload_n 1, 1) := by decide +kernel
theorem dX12_has_2 : decode cX12_has 2 = .ok (.ishr, 1) := by decide +kernel
theorem dX12_has_3 : decode cX12_has 3 = .ok (.iconst 1, 1) := by decide +kernel
theorem dX12_has_4 : decode cX12_has 4 = .ok (.iand, 1) := by decide +kernel
theorem dX12_has_5 : decode cX12_has 5 = .ok (.iconst 1, 1) := by decide +kernel
theorem dX12_has_6 : decode cX12_has 6 = .ok (.if_icmp .ne 7, 3) := by decide +kernel
theorem dX12_has_9 : decode cX12_has 9 = .ok (.iconst 1, 1) := by decide +kernel
theorem dX12_has_10 : decode cX12_has 10 = .ok (.goto 4, 3) := by decide +kernel
theorem dX12_has_13 : decode cX12_has 13 = .ok (.iconst 0, 1) := by decide +kernel
theorem dX12_has_14 : decode cX12_has 14 = .ok (.ireturn, 1) := by decide +kernel
theorem dX12_feed_0 : decode cX12_feed 0 = .ok (.aload_n 0, 1) := by decide +kernel
theorem dX12_feed_1 : decode cX12_feed 1 = .ok (.iconst 0, 1) := by decide +kernel
theorem dX12_feed_2 : decode cX12_feed 2 = .ok (.putfield 103, 3) := by decide +kernel
theorem dX12_feed_5 : decode cX12_feed 5 = .ok (.aload_n 0, 1) := by decide +kernel
theorem dX12_feed_6 : decode cX12_feed 6 = .ok (.getfield 106, 3) := by decide +kernel
theorem dX12_feed_9 : decode cX12_feed 9 = .ok (.bipush 20, 2) := by decide +kernel
theorem dX12_feed_11 : decode cX12_feed 11 = .ok (.iadd, 1) := by decide +kernel
theorem dX12_feed_12 : decode cX12_feed 12 = .ok (.sipush 600, 3) := by decide +kernel
theorem dX12_feed_15 : decode cX12_feed 15 = .ok (.if_icmp .le 5, 3) := by decide +kernel
theorem dX12_feed_18 : decode cX12_feed 18 = .ok (.iconst (-1), 1) := by decide +kernel
theorem dX12_feed_19 : decode cX12_feed 19 = .ok (.ireturn, 1) := by decide +kernel
theorem dX12_feed_20 : decode cX12_feed 20 = .ok (.iconst 0, 1) := by decide +kernel
theorem dX12_feed_21 : decode cX12_feed 21 = .ok (.istore 6, 2) := by decide +kernel
theorem dX12_feed_23 : decode cX12_feed 23 = .ok (.iload 6, 2) := by decide +kernel
theorem dX12_feed_25 : decode cX12_feed 25 = .ok (.bipush 20, 2) := by decide +kernel
theorem dX12_feed_27 : decode cX12_feed 27 = .ok (.if_icmp .ge 93, 3) := by decide +kernel
theorem dX12_feed_30 : decode cX12_feed 30 = .ok (.iload 6, 2) := by decide +kernel
theorem dX12_feed_32 : decode cX12_feed 32 = .ok (.iconst 4, 1) := by decide +kernel
theorem dX12_feed_33 : decode cX12_feed 33 = .ok (.if_icmp .ge 7, 3) := by decide +kernel
theorem dX12_feed_36 : decode cX12_feed 36 = .ok (.iload_n 1, 1) := by decide +kernel
theorem dX12_feed_37 : decode cX12_feed 37 = .ok (.goto 39, 3) := by decide +kernel
theorem dX12_feed_40 : decode cX12_feed 40 = .ok (.iload 6, 2) := by decide +kernel
theorem dX12_feed_42 : decode cX12_feed 42 = .ok (.bipush 8, 2) := by decide +kernel
theorem dX12_feed_44 : decode cX12_feed 44 = .ok (.if_icmp .ge 7, 3) := by decide +kernel
theorem dX12_feed_47 : decode cX12_feed 47 = .ok (.iload_n 2, 1) := by decide +kernel
theorem dX12_feed_48 : decode cX12_feed 48 = .ok (.goto 28, 3) := by decide +kernel
theorem dX12_feed_51 : decode cX12_feed 51 = .ok (.iload 6, 2) := by decide +kernel
theorem dX12_feed_53 : decode cX12_feed 53 = .ok (.bipush 12, 2) := by decide +kernel
theorem dX12_feed_55 : decode cX12_feed 55 = .ok (.if_icmp .ge 7, 3) := by decide +kernel
theorem dX12_feed_58 : decode cX12_feed 58 = .ok (.iload_n 3, 1) := by decide +kernel
theorem dX12_feed_59 : decode cX12_feed 59 = .ok (.goto 17, 3) := by decide +kernel
theorem dX12_feed_62 : decode cX12_feed 62 = .ok (.iload 6, 2) := by decide +kernel
theorem dX12_feed_64 : decode cX12_feed 64 = .ok (.bipush 16, 2) := by decide +kernel
theorem dX12_feed_66 : decode cX12_feed 66 = .ok (.if_icmp .ge 8, 3) := by decide +kernel
theorem dX12_feed_69 : decode cX12_feed 69 = .ok (.iload 4, 2) := by decide +kernel
theorem dX12_feed_71 : decode cX12_feed 71 = .ok (.goto 5, 3) := by decide +kernel
theorem dX12_feed_74 : decode cX12_feed 74 = .ok (.iload 5, 2) := by decide +kernel
theorem dX12_feed_76 : decode cX12_feed 76 = .ok (.istore 7, 2) := by decide +kernel
theorem dX12_feed_78 : decode cX12_feed 78 = .ok (.aload_n 0, 1) := by decide +kernel
theorem dX12_feed_79 : decode cX12_feed 79 = .ok (.getfield 13, 3) := by decide +kernel
theorem dX12_feed_82 : decode cX12_feed 82 = .ok (.aload_n 0, 1) := by decide +kernel
theorem dX12_feed_83 : decode cX12_feed 83 = .ok (.getfield 106, 3) := by decide +kernel
theorem dX12_feed_86 : decode cX12_feed 86 = .ok (.iload 7, 2) := by decide +kernel
theorem dX12_feed_88 : decode cX12_feed 88 = .ok (.bipush 24, 2) := by decide +kernel
theorem dX12_feed_90 : decode cX12_feed 90 = .ok (.bipush 8, 2) := by decide +kernel
theorem dX12_feed_92 : decode cX12_feed 92 = .ok (.iload 6, 2) := by decide +kernel
theorem dX12_feed_94 : decode cX12_feed 94 = .ok (.iconst 4, 1) := by decide +kernel
theorem dX12_feed_95 : decode cX12_feed 95 = .ok (.irem, 1) := by decide +kernel
theorem dX12_feed_96 : decode cX12_feed 96 = .ok (.imul, 1) := by decide +kernel
theorem dX12_feed_97 : decode cX12_feed 97 = .ok (.isub, 1) := by decide +kernel
theorem dX12_feed_98 : decode cX12_feed 98 = .ok (.ishr, 1) := by decide +kernel
theorem dX12_feed_99 : decode cX12_feed 99 = .ok (.sipush 255, 3) := by decide +kernel
theorem dX12_feed_102 : decode cX12_feed 102 = .ok (.iand, 1) := by decide +kernel
theorem dX12_feed_103 : decode cX12_feed 103 = .ok (.iastore, 1) := by decide +kernel
theorem dX12_feed_104 : decode cX12_feed 104 = .ok (.aload_n 0, 1) := by decide +kernel
theorem dX12_feed_105 : decode cX12_feed 105 = .ok (.dup, 1) := by decide +kernel
theorem dX12_feed_106 : decode cX12_feed 106 = .ok (.getfield 106, 3) := by decide +kernel
theorem dX12_feed_109 : decode cX12_feed 109 = .ok (.iconst 1, 1) := by decide +kernel
theorem dX12_feed_110 : decode cX12_feed 110 = .ok (.iadd, 1) := by decide +kernel
theorem dX12_feed_111 : decode cX12_feed 111 = .ok (.putfield 106, 3) := by decide +kernel
theorem dX12_feed_114 : decode cX12_feed 114 = .ok (.iinc 6 1, 3) := by decide +kernel
theorem dX12_feed_117 : decode cX12_feed 117 = .ok (.goto (-94), 3) := by decide +kernel
theorem dX12_feed_120 : decode cX12_feed 120 = .ok (.aload_n 0, 1) := by decide +kernel
theorem dX12_feed_121 : decode cX12_feed 121 = .ok (.getfield 106, 3) := by decide +kernel
theorem dX12_feed_124 : decode cX12_feed 124 = .ok (.ireturn, 1) := by decide +kernel
theorem dX12_byteAt_0 : decode cX12_byteAt 0 = .ok (.iload_n 1, 1) := by decide +kernel
theorem dX12_byteAt_1 : decode cX12_byteAt 1 = .ok (.aload_n 0, 1) := by decide +kernel
theorem dX12_byteAt_2 : decode cX12_byteAt 2 = .ok (.getfield 109, 3) := by decide +kernel
theorem dX12_byteAt_5 : decode cX12_byteAt 5 = .ok (.if_icmp .lt 7, 3) := by decide +kernel
theorem dX12_byteAt_8 : decode cX12_byteAt 8 = .ok (.iconst (-1), 1) := by decide +kernel
theorem dX12_byteAt_9 : decode cX12_byteAt 9 = .ok (.goto 9, 3) := by decide +kernel
theorem dX12_byteAt_12 : decode cX12_byteAt 12 = .ok (.aload_n 0, 1) := by decide +kernel
theorem dX12_byteAt_13 : decode cX12_byteAt 13 = .ok (.getfield 13, 3) := by decide +kernel
theorem dX12_byteAt_16 : decode cX12_byteAt 16 = .ok (.iload_n 1, 1) := by decide +kernel
theorem dX12_byteAt_17 : decode cX12_byteAt 17 = .ok (.iaload, 1) := by decide +kernel
theorem dX12_byteAt_18 : decode cX12_byteAt 18 = .ok (.ireturn, 1) := by decide +kernel
theorem dX12_blanks_0 : decode cX12_blanks 0 = .ok (.aload_n 0, 1) := by decide +kernel
theorem dX12_blanks_1 : decode cX12_blanks 1 = .ok (.aload_n 0, 1) := by decide +kernel
theorem dX12_blanks_2 : decode cX12_blanks 2 = .ok (.getfield 112, 3) := by decide +kernel
theorem dX12_blanks_5 : decode cX12_blanks 5 = .ok (.invokevirtual 115, 3) := by decide +kernel
theorem dX12_blanks_8 : decode cX12_blanks 8 = .ok (.bipush 32, 2) := by decide +kernel
theorem dX12_blanks_10 : decode cX12_blanks 10 = .ok (.if_icmp .ne 16, 3) := by decide +kernel
theorem dX12_blanks_13 : decode cX12_blanks 13 = .ok (.aload_n 0, 1) := by decide +kernel
theorem dX12_blanks_14 : decode cX12_blanks 14 = .ok (.dup, 1) := by decide +kernel
theorem dX12_blanks_15 : decode cX12_blanks 15 = .ok (.getfield 112, 3) := by decide +kernel
theorem dX12_blanks_18 : decode cX12_blanks 18 = .ok (.iconst 1, 1) := by decide +kernel
theorem dX12_blanks_19 : decode cX12_blanks 19 = .ok (.iadd, 1) := by decide +kernel
theorem dX12_blanks_20 : decode cX12_blanks 20 = .ok (.putfield 112, 3) := by decide +kernel
theorem dX12_blanks_23 : decode cX12_blanks 23 = .ok (.goto (-23), 3) := by decide +kernel
theorem dX12_blanks_26 : decode cX12_blanks 26 = .ok (.return_, 1) := by decide +kernel
theorem dX12_wrong_0 : decode cX12_wrong 0 = .ok (.aload_n 0, 1) := by decide +kernel
theorem dX12_wrong_1 : decode cX12_wrong 1 = .ok (.getfield 119, 3) := by decide +kernel
theorem dX12_wrong_4 : decode cX12_wrong 4 = .ok (.ifCond .ne 13, 3) := by decide +kernel
theorem dX12_wrong_7 : decode cX12_wrong 7 = .ok (.aload_n 0, 1) := by decide +kernel
theorem dX12_wrong_8 : decode cX12_wrong 8 = .ok (.iload_n 1, 1) := by decide +kernel
theorem dX12_wrong_9 : decode cX12_wrong 9 = .ok (.putfield 119, 3) := by decide +kernel
theorem dX12_wrong_12 : decode cX12_wrong 12 = .ok (.aload_n 0, 1) := by decide +kernel
theorem dX12_wrong_13 : decode cX12_wrong 13 = .ok (.iload_n 2, 1) := by decide +kernel
theorem dX12_wrong_14 : decode cX12_wrong 14 = .ok (.putfield 122, 3) := by decide +kernel
theorem dX12_wrong_17 : decode cX12_wrong 17 = .ok (.return_, 1) := by decide +kernel
theorem dX12_isDigit_0 : decode cX12_isDigit 0 = .ok (.iload_n 0, 1) := by decide +kernel
theorem dX12_isDigit_1 : decode cX12_isDigit 1 = .ok (.bipush 48, 2) := by decide +kernel
theorem dX12_isDigit_3 : decode cX12_isDigit 3 = .ok (.if_icmp .lt 13, 3) := by decide +kernel
theorem dX12_isDigit_6 : decode cX12_isDigit 6 = .ok (.iload_n 0, 1) := by decide +kernel
theorem dX12_isDigit_7 : decode cX12_isDigit 7 = .ok (.bipush 57, 2) := by decide +kernel
theorem dX12_isDigit_9 : decode cX12_isDigit 9 = .ok (.if_icmp .gt 7, 3) := by decide +kernel
theorem dX12_isDigit_12 : decode cX12_isDigit 12 = .ok (.iconst 1, 1) := by decide +kernel
theorem dX12_isDigit_13 : decode cX12_isDigit 13 = .ok (.goto 4, 3) := by decide +kernel
theorem dX12_isDigit_16 : decode cX12_isDigit 16 = .ok (.iconst 0, 1) := by decide +kernel
theorem dX12_isDigit_17 : decode cX12_isDigit 17 = .ok (.ireturn, 1) := by decide +kernel
theorem dX12_isSmall_0 : decode cX12_isSmall 0 = .ok (.iload_n 0, 1) := by decide +kernel
theorem dX12_isSmall_1 : decode cX12_isSmall 1 = .ok (.bipush 97, 2) := by decide +kernel
theorem dX12_isSmall_3 : decode cX12_isSmall 3 = .ok (.if_icmp .lt 13, 3) := by decide +kernel
theorem dX12_isSmall_6 : decode cX12_isSmall 6 = .ok (.iload_n 0, 1) := by decide +kernel
theorem dX12_isSmall_7 : decode cX12_isSmall 7 = .ok (.bipush 122, 2) := by decide +kernel
theorem dX12_isSmall_9 : decode cX12_isSmall 9 = .ok (.if_icmp .gt 7, 3) := by decide +kernel
theorem dX12_isSmall_12 : decode cX12_isSmall 12 = .ok (.iconst 1, 1) := by decide +kernel
theorem dX12_isSmall_13 : decode cX12_isSmall 13 = .ok (.goto 4, 3) := by decide +kernel
theorem dX12_isSmall_16 : decode cX12_isSmall 16 = .ok (.iconst 0, 1) := by decide +kernel
theorem dX12_isSmall_17 : decode cX12_isSmall 17 = .ok (.ireturn, 1) := by decide +kernel
theorem dX12_number_0 : decode cX12_number 0 = .ok (.aload_n 0, 1) := by decide +kernel
theorem dX12_number_1 : decode cX12_number 1 = .ok (.getfield 119, 3) := by decide +kernel
theorem dX12_number_4 : decode cX12_number 4 = .ok (.ifCond .eq 5, 3) := by decide +kernel
theorem dX12_number_7 : decode cX12_number 7 = .ok (.iconst 0, 1) := by decide +kernel
theorem dX12_number_8 : decode cX12_number 8 = .ok (.ireturn, 1) := by decide +kernel
theorem dX12_number_9 : decode cX12_number 9 = .ok (.aload_n 0, 1) := by decide +kernel
theorem dX12_number_10 : decode cX12_number 10 = .ok (.invokevirtual 125, 3) := by decide +kernel
theorem dX12_number_13 : decode cX12_number 13 = .ok (.aload_n 0, 1) := by decide +kernel
theorem dX12_number_14 : decode cX12_number 14 = .ok (.getfield 112, 3) := by decide +kernel
theorem dX12_number_17 : decode cX12_number 17 = .ok (.istore_n 3, 1) := by decide +kernel
theorem dX12_number_18 : decode cX12_number 18 = .ok (.iconst 0, 1) := by decide +kernel
theorem dX12_number_19 : decode cX12_number 19 = .ok (.istore 4, 2) := by decide +kernel
theorem dX12_number_21 : decode cX12_number 21 = .ok (.aload_n 0, 1) := by decide +kernel
theorem dX12_number_22 : decode cX12_number 22 = .ok (.aload_n 0, 1) := by decide +kernel
theorem dX12_number_23 : decode cX12_number 23 = .ok (.getfield 112, 3) := by decide +kernel
theorem dX12_number_26 : decode cX12_number 26 = .ok (.invokevirtual 115, 3) := by decide +kernel
theorem dX12_number_29 : decode cX12_number 29 = .ok (.invokestatic 128, 3) := by decide +kernel
theorem dX12_number_32 : decode cX12_number 32 = .ok (.ifCond .ne 12, 3) := by decide +kernel
theorem dX12_number_35 : decode cX12_number 35 = .ok (.aload_n 0, 1) := by decide +kernel
theorem dX12_number_36 : decode cX12_number 36 = .ok (.iconst 1, 1) := by decide +kernel
theorem dX12_number_37 : decode cX12_number 37 = .ok (.aload_n 0, 1) := by decide +kernel
theorem dX12_number_38 : decode cX12_number 38 = .ok (.getfield 112, 3) := by decide +kernel
theorem dX12_number_41 : decode cX12_number 41 = .ok (.invokevirtual 132, 3) := by decide +kernel
theorem dX12_number_44 : decode cX12_number 44 = .ok (.aload_n 0, 1) := by decide +kernel
theorem dX12_number_45 : decode cX12_number 45 = .ok (.aload_n 0, 1) := by decide +kernel
theorem dX12_number_46 : decode cX12_number 46 = .ok (.getfield 112, 3) := by decide +kernel
theorem dX12_number_49 : decode cX12_number 49 = .ok (.invokevirtual 115, 3) := by decide +kernel
theorem dX12_number_52 : decode cX12_number 52 = .ok (.invokestatic 128, 3) := by decide +kernel
theorem dX12_number_55 : decode cX12_number 55 = .ok (.ifCond .eq 51, 3) := by decide +kernel
theorem dX12_number_58 : decode cX12_number 58 = .ok (.bipush 10, 2) := by decide +kernel
theorem dX12_number_60 : decode cX12_number 60 = .ok (.iload 4, 2) := by decide +kernel
theorem dX12_number_62 : decode cX12_number 62 = .ok (.imul, 1) := by decide +kernel
theorem dX12_number_63 : decode cX12_number 63 = .ok (.aload_n 0, 1) := by decide +kernel
theorem dX12_number_64 : decode cX12_number 64 = .ok (.aload_n 0, 1) := by decide +kernel
theorem dX12_number_65 : decode cX12_number 65 = .ok (.getfield 112, 3) := by decide +kernel
theorem dX12_number_68 : decode cX12_number 68 = .ok (.invokevirtual 115, 3) := by decide +kernel
theorem dX12_number_71 : decode cX12_number 71 = .ok (.iadd, 1) := by decide +kernel
theorem dX12_number_72 : decode cX12_number 72 = .ok (.bipush 48, 2) := by decide +kernel
theorem dX12_number_74 : decode cX12_number 74 = .ok (.isub, 1) := by decide +kernel
theorem dX12_number_75 : decode cX12_number 75 = .ok (.istore 4, 2) := by decide +kernel
theorem dX12_number_77 : decode cX12_number 77 = .ok (.iload 4, 2) := by decide +kernel
theorem dX12_number_79 : decode cX12_number 79 = .ok (.ldc 136, 2) := by decide +kernel
theorem dX12_number_81 : decode cX12_number 81 = .ok (.if_icmp .le 8, 3) := by decide +kernel
theorem dX12_number_84 : decode cX12_number 84 = .ok (.ldc 136, 2) := by decide +kernel
theorem dX12_number_86 : decode cX12_number 86 = .ok (.goto 5, 3) := by decide +kernel
theorem dX12_number_89 : decode cX12_number 89 = .ok (.iload 4, 2) := by decide +kernel
theorem dX12_number_91 : decode cX12_number 91 = .ok (.istore 4, 2) := by decide +kernel
theorem dX12_number_93 : decode cX12_number 93 = .ok (.aload_n 0, 1) := by decide +kernel
theorem dX12_number_94 : decode cX12_number 94 = .ok (.dup, 1) := by decide +kernel
theorem dX12_number_95 : decode cX12_number 95 = .ok (.getfield 112, 3) := by decide +kernel
theorem dX12_number_98 : decode cX12_number 98 = .ok (.iconst 1, 1) := by decide +kernel
theorem dX12_number_99 : decode cX12_number 99 = .ok (.iadd, 1) := by decide +kernel
theorem dX12_number_100 : decode cX12_number 100 = .ok (.putfield 112, 3) := by decide +kernel
theorem dX12_number_103 : decode cX12_number 103 = .ok (.goto (-59), 3) := by decide +kernel
theorem dX12_number_106 : decode cX12_number 106 = .ok (.iload 4, 2) := by decide +kernel
theorem dX12_number_108 : decode cX12_number 108 = .ok (.iload_n 1, 1) := by decide +kernel
theorem dX12_number_109 : decode cX12_number 109 = .ok (.iload_n 2, 1) := by decide +kernel
theorem dX12_number_110 : decode cX12_number 110 = .ok (.invokestatic 137, 3) := by decide +kernel
theorem dX12_number_113 : decode cX12_number 113 = .ok (.ifCond .ne 9, 3) := by decide +kernel
theorem dX12_number_116 : decode cX12_number 116 = .ok (.aload_n 0, 1) := by decide +kernel
theorem dX12_number_117 : decode cX12_number 117 = .ok (.iconst 2, 1) := by decide +kernel
theorem dX12_number_118 : decode cX12_number 118 = .ok (.iload_n 3, 1) := by decide +kernel
theorem dX12_number_119 : decode cX12_number 119 = .ok (.invokevirtual 132, 3) := by decide +kernel
theorem dX12_number_122 : decode cX12_number 122 = .ok (.aload_n 0, 1) := by decide +kernel
theorem dX12_number_123 : decode cX12_number 123 = .ok (.getfield 119, 3) := by decide +kernel
theorem dX12_number_126 : decode cX12_number 126 = .ok (.ifCond .ne 8, 3) := by decide +kernel
theorem dX12_number_129 : decode cX12_number 129 = .ok (.iload 4, 2) := by decide +kernel
theorem dX12_number_131 : decode cX12_number 131 = .ok (.goto 4, 3) := by decide +kernel
theorem dX12_number_134 : decode cX12_number 134 = .ok (.iconst 0, 1) := by decide +kernel
theorem dX12_number_135 : decode cX12_number 135 = .ok (.ireturn, 1) := by decide +kernel
theorem dX12_wordHere_0 : decode cX12_wordHere 0 = .ok (.aload_n 0, 1) := by decide +kernel
theorem dX12_wordHere_1 : decode cX12_wordHere 1 = .ok (.invokevirtual 125, 3) := by decide +kernel
theorem dX12_wordHere_4 : decode cX12_wordHere 4 = .ok (.iconst 0, 1) := by decide +kernel
theorem dX12_wordHere_5 : decode cX12_wordHere 5 = .ok (.istore_n 1, 1) := by decide +kernel
theorem dX12_wordHere_6 : decode cX12_wordHere 6 = .ok (.iconst 0, 1) := by decide +kernel
theorem dX12_wordHere_7 : decode cX12_wordHere 7 = .ok (.istore_n 2, 1) := by decide +kernel
theorem dX12_wordHere_8 : decode cX12_wordHere 8 = .ok (.aload_n 0, 1) := by decide +kernel
theorem dX12_wordHere_9 : decode cX12_wordHere 9 = .ok (.aload_n 0, 1) := by decide +kernel
theorem dX12_wordHere_10 : decode cX12_wordHere 10 = .ok (.getfield 112, 3) := by decide +kernel
theorem dX12_wordHere_13 : decode cX12_wordHere 13 = .ok (.iload_n 2, 1) := by decide +kernel
theorem dX12_wordHere_14 : decode cX12_wordHere 14 = .ok (.iadd, 1) := by decide +kernel
theorem dX12_wordHere_15 : decode cX12_wordHere 15 = .ok (.invokevirtual 115, 3) := by decide +kernel
theorem dX12_wordHere_18 : decode cX12_wordHere 18 = .ok (.invokestatic 141, 3) := by decide +kernel
theorem dX12_wordHere_21 : decode cX12_wordHere 21 = .ok (.ifCond .eq 40, 3) := by decide +kernel
theorem dX12_wordHere_24 : decode cX12_wordHere 24 = .ok (.iload_n 2, 1) := by decide +kernel
theorem dX12_wordHere_25 : decode cX12_wordHere 25 = .ok (.bipush 6, 2) := by decide +kernel
theorem dX12_wordHere_27 : decode cX12_wordHere 27 = .ok (.if_icmp .ge 26, 3) := by decide +kernel
theorem dX12_wordHere_30 : decode cX12_wordHere 30 = .ok (.bipush 27, 2) := by decide +kernel
theorem dX12_wordHere_32 : decode cX12_wordHere 32 = .ok (.iload_n 1, 1) := by decide +kernel
theorem dX12_wordHere_33 : decode cX12_wordHere 33 = .ok (.imul, 1) := by decide +kernel
theorem dX12_wordHere_34 : decode cX12_wordHere 34 = .ok (.aload_n 0, 1) := by decide +kernel
theorem dX12_wordHere_35 : decode cX12_wordHere 35 = .ok (.aload_n 0, 1) := by decide +kernel
theorem dX12_wordHere_36 : decode cX12_wordHere 36 = .ok (.getfield 112, 3) := by decide +kernel
theorem dX12_wordHere_39 : decode cX12_wordHere 39 = .ok (.iload_n 2, 1) := by decide +kernel
theorem dX12_wordHere_40 : decode cX12_wordHere 40 = .ok (.iadd, 1) := by decide +kernel
theorem dX12_wordHere_41 : decode cX12_wordHere 41 = .ok (.invokevirtual 115, 3) := by decide +kernel
theorem dX12_wordHere_44 : decode cX12_wordHere 44 = .ok (.iadd, 1) := by decide +kernel
theorem dX12_wordHere_45 : decode cX12_wordHere 45 = .ok (.bipush 97, 2) := by decide +kernel
theorem dX12_wordHere_47 : decode cX12_wordHere 47 = .ok (.isub, 1) := by decide +kernel
theorem dX12_wordHere_48 : decode cX12_wordHere 48 = .ok (.iconst 1, 1) := by decide +kernel
theorem dX12_wordHere_49 : decode cX12_wordHere 49 = .ok (.iadd, 1) := by decide +kernel
theorem dX12_wordHere_50 : decode cX12_wordHere 50 = .ok (.goto 4, 3) := by decide +kernel
theorem dX12_wordHere_53 : decode cX12_wordHere 53 = .ok (.iload_n 1, 1) := by decide +kernel
theorem dX12_wordHere_54 : decode cX12_wordHere 54 = .ok (.istore_n 1, 1) := by decide +kernel
theorem dX12_wordHere_55 : decode cX12_wordHere 55 = .ok (.iinc 2 1, 3) := by decide +kernel
theorem dX12_wordHere_58 : decode cX12_wordHere 58 = .ok (.goto (-50), 3) := by decide +kernel
theorem dX12_wordHere_61 : decode cX12_wordHere 61 = .ok (.iload_n 2, 1) := by decide +kernel
theorem dX12_wordHere_62 : decode cX12_wordHere 62 = .ok (.bipush 6, 2) := by decide +kernel
theorem dX12_wordHere_64 : decode cX12_wordHere 64 = .ok (.if_icmp .le 7, 3) := by decide +kernel
theorem dX12_wordHere_67 : decode cX12_wordHere 67 = .ok (.iconst (-1), 1) := by decide +kernel
theorem dX12_wordHere_68 : decode cX12_wordHere 68 = .ok (.goto 4, 3) := by decide +kernel
theorem dX12_wordHere_71 : decode cX12_wordHere 71 = .ok (.iload_n 1, 1) := by decide +kernel
theorem dX12_wordHere_72 : decode cX12_wordHere 72 = .ok (.ireturn, 1) := by decide +kernel
theorem dX12_six_0 : decode cX12_six 0 = .ok (.bipush 27, 2) := by decide +kernel
theorem dX12_six_2 : decode cX12_six 2 = .ok (.bipush 27, 2) := by decide +kernel
theorem dX12_six_4 : decode cX12_six 4 = .ok (.iload_n 0, 1) := by decide +kernel
theorem dX12_six_5 : decode cX12_six 5 = .ok (.imul, 1) := by decide +kernel
theorem dX12_six_6 : decode cX12_six 6 = .ok (.iload_n 1, 1) := by decide +kernel
theorem dX12_six_7 : decode cX12_six 7 = .ok (.iadd, 1) := by decide +kernel
theorem dX12_six_8 : decode cX12_six 8 = .ok (.imul, 1) := by decide +kernel
theorem dX12_six_9 : decode cX12_six 9 = .ok (.iload_n 2, 1) := by decide +kernel
theorem dX12_six_10 : decode cX12_six 10 = .ok (.iadd, 1) := by decide +kernel
theorem dX12_six_11 : decode cX12_six 11 = .ok (.istore 6, 2) := by decide +kernel
theorem dX12_six_13 : decode cX12_six 13 = .ok (.iload_n 3, 1) := by decide +kernel
theorem dX12_six_14 : decode cX12_six 14 = .ok (.ifCond .ne 8, 3) := by decide +kernel
theorem dX12_six_17 : decode cX12_six 17 = .ok (.iload 6, 2) := by decide +kernel
theorem dX12_six_19 : decode cX12_six 19 = .ok (.goto 10, 3) := by decide +kernel
theorem dX12_six_22 : decode cX12_six 22 = .ok (.bipush 27, 2) := by decide +kernel
theorem dX12_six_24 : decode cX12_six 24 = .ok (.iload 6, 2) := by decide +kernel
theorem dX12_six_26 : decode cX12_six 26 = .ok (.imul, 1) := by decide +kernel
theorem dX12_six_27 : decode cX12_six 27 = .ok (.iload_n 3, 1) := by decide +kernel
theorem dX12_six_28 : decode cX12_six 28 = .ok (.iadd, 1) := by decide +kernel
theorem dX12_six_29 : decode cX12_six 29 = .ok (.istore 6, 2) := by decide +kernel
theorem dX12_six_31 : decode cX12_six 31 = .ok (.iload 4, 2) := by decide +kernel
theorem dX12_six_33 : decode cX12_six 33 = .ok (.ifCond .ne 8, 3) := by decide +kernel
theorem dX12_six_36 : decode cX12_six 36 = .ok (.iload 6, 2) := by decide +kernel
theorem dX12_six_38 : decode cX12_six 38 = .ok (.goto 11, 3) := by decide +kernel
theorem dX12_six_41 : decode cX12_six 41 = .ok (.bipush 27, 2) := by decide +kernel
theorem dX12_six_43 : decode cX12_six 43 = .ok (.iload 6, 2) := by decide +kernel
theorem dX12_six_45 : decode cX12_six 45 = .ok (.imul, 1) := by decide +kernel
theorem dX12_six_46 : decode cX12_six 46 = .ok (.iload 4, 2) := by decide +kernel
theorem dX12_six_48 : decode cX12_six 48 = .ok (.iadd, 1) := by decide +kernel
theorem dX12_six_49 : decode cX12_six 49 = .ok (.istore 6, 2) := by decide +kernel
theorem dX12_six_51 : decode cX12_six 51 = .ok (.iload 5, 2) := by decide +kernel
theorem dX12_six_53 : decode cX12_six 53 = .ok (.ifCond .ne 8, 3) := by decide +kernel
theorem dX12_six_56 : decode cX12_six 56 = .ok (.iload 6, 2) := by decide +kernel
theorem dX12_six_58 : decode cX12_six 58 = .ok (.goto 11, 3) := by decide +kernel
theorem dX12_six_61 : decode cX12_six 61 = .ok (.bipush 27, 2) := by decide +kernel
theorem dX12_six_63 : decode cX12_six 63 = .ok (.iload 6, 2) := by decide +kernel
theorem dX12_six_65 : decode cX12_six 65 = .ok (.imul, 1) := by decide +kernel
theorem dX12_six_66 : decode cX12_six 66 = .ok (.iload 5, 2) := by decide +kernel
theorem dX12_six_68 : decode cX12_six 68 = .ok (.iadd, 1) := by decide +kernel
theorem dX12_six_69 : decode cX12_six 69 = .ok (.ireturn, 1) := by decide +kernel
theorem dX12_isWord_0 : decode cX12_isWord 0 = .ok (.aload_n 0, 1) := by decide +kernel
theorem dX12_isWord_1 : decode cX12_isWord 1 = .ok (.getfield 119, 3) := by decide +kernel
theorem dX12_isWord_4 : decode cX12_isWord 4 = .ok (.ifCond .ne 26, 3) := by decide +kernel
theorem dX12_isWord_7 : decode cX12_isWord 7 = .ok (.aload_n 0, 1) := by decide +kernel
theorem dX12_isWord_8 : decode cX12_isWord 8 = .ok (.invokevirtual 144, 3) := by decide +kernel
theorem dX12_isWord_11 : decode cX12_isWord 11 = .ok (.iload_n 1, 1) := by decide +kernel
theorem dX12_isWord_12 : decode cX12_isWord 12 = .ok (.iload_n 2, 1) := by decide +kernel
theorem dX12_isWord_13 : decode cX12_isWord 13 = .ok (.iload_n 3, 1) := by decide +kernel
theorem dX12_isWord_14 : decode cX12_isWord 14 = .ok (.iload 4, 2) := by decide +kernel
theorem dX12_isWord_16 : decode cX12_isWord 16 = .ok (.iload 5, 2) := by decide +kernel
theorem dX12_isWord_18 : decode cX12_isWord 18 = .ok (.iload 6, 2) := by decide +kernel
theorem dX12_isWord_20 : decode cX12_isWord 20 = .ok (.invokestatic 148, 3) := by decide +kernel
theorem dX12_isWord_23 : decode cX12_isWord 23 = .ok (.if_icmp .ne 7, 3) := by decide +kernel
theorem dX12_isWord_26 : decode cX12_isWord 26 = .ok (.iconst 1, 1) := by decide +kernel
theorem dX12_isWord_27 : decode cX12_isWord 27 = .ok (.goto 4, 3) := by decide +kernel
theorem dX12_isWord_30 : decode cX12_isWord 30 = .ok (.iconst 0, 1) := by decide +kernel
theorem dX12_isWord_31 : decode cX12_isWord 31 = .ok (.ireturn, 1) := by decide +kernel
theorem dX12_skipWord_0 : decode cX12_skipWord 0 = .ok (.aload_n 0, 1) := by decide +kernel
theorem dX12_skipWord_1 : decode cX12_skipWord 1 = .ok (.aload_n 0, 1) := by decide +kernel
theorem dX12_skipWord_2 : decode cX12_skipWord 2 = .ok (.getfield 112, 3) := by decide +kernel
theorem dX12_skipWord_5 : decode cX12_skipWord 5 = .ok (.invokevirtual 115, 3) := by decide +kernel
theorem dX12_skipWord_8 : decode cX12_skipWord 8 = .ok (.invokestatic 141, 3) := by decide +kernel
theorem dX12_skipWord_11 : decode cX12_skipWord 11 = .ok (.ifCond .eq 16, 3) := by decide +kernel
theorem dX12_skipWord_14 : decode cX12_skipWord 14 = .ok (.aload_n 0, 1) := by decide +kernel
theorem dX12_skipWord_15 : decode cX12_skipWord 15 = .ok (.dup, 1) := by decide +kernel
theorem dX12_skipWord_16 : decode cX12_skipWord 16 = .ok (.getfield 112, 3) := by decide +kernel
theorem dX12_skipWord_19 : decode cX12_skipWord 19 = .ok (.iconst 1, 1) := by decide +kernel
theorem dX12_skipWord_20 : decode cX12_skipWord 20 = .ok (.iadd, 1) := by decide +kernel
theorem dX12_skipWord_21 : decode cX12_skipWord 21 = .ok (.putfield 112, 3) := by decide +kernel
theorem dX12_skipWord_24 : decode cX12_skipWord 24 = .ok (.goto (-24), 3) := by decide +kernel
theorem dX12_skipWord_27 : decode cX12_skipWord 27 = .ok (.return_, 1) := by decide +kernel
theorem dX12_takes_0 : decode cX12_takes 0 = .ok (.aload_n 0, 1) := by decide +kernel
theorem dX12_takes_1 : decode cX12_takes 1 = .ok (.iload_n 1, 1) := by decide +kernel
theorem dX12_takes_2 : decode cX12_takes 2 = .ok (.iload_n 2, 1) := by decide +kernel
theorem dX12_takes_3 : decode cX12_takes 3 = .ok (.iload_n 3, 1) := by decide +kernel
theorem dX12_takes_4 : decode cX12_takes 4 = .ok (.iload 4, 2) := by decide +kernel
theorem dX12_takes_6 : decode cX12_takes 6 = .ok (.iload 5, 2) := by decide +kernel
theorem dX12_takes_8 : decode cX12_takes 8 = .ok (.iload 6, 2) := by decide +kernel
theorem dX12_takes_10 : decode cX12_takes 10 = .ok (.invokevirtual 152, 3) := by decide +kernel
theorem dX12_takes_13 : decode cX12_takes 13 = .ok (.istore 7, 2) := by decide +kernel
theorem dX12_takes_15 : decode cX12_takes 15 = .ok (.iload 7, 2) := by decide +kernel
theorem dX12_takes_17 : decode cX12_takes 17 = .ok (.ifCond .eq 7, 3) := by decide +kernel
theorem dX12_takes_20 : decode cX12_takes 20 = .ok (.aload_n 0, 1) := by decide +kernel
theorem dX12_takes_21 : decode cX12_takes 21 = .ok (.invokevirtual 156, 3) := by decide +kernel
theorem dX12_takes_24 : decode cX12_takes 24 = .ok (.iload 7, 2) := by decide +kernel
theorem dX12_takes_26 : decode cX12_takes 26 = .ok (.ireturn, 1) := by decide +kernel
theorem dX12_sign_0 : decode cX12_sign 0 = .ok (.aload_n 0, 1) := by decide +kernel
theorem dX12_sign_1 : decode cX12_sign 1 = .ok (.getfield 119, 3) := by decide +kernel
theorem dX12_sign_4 : decode cX12_sign 4 = .ok (.ifCond .eq 4, 3) := by decide +kernel
theorem dX12_sign_7 : decode cX12_sign 7 = .ok (.return_, 1) := by decide +kernel
theorem dX12_sign_8 : decode cX12_sign 8 = .ok (.aload_n 0, 1) := by decide +kernel
theorem dX12_sign_9 : decode cX12_sign 9 = .ok (.invokevirtual 125, 3) := by decide +kernel
theorem dX12_sign_12 : decode cX12_sign 12 = .ok (.aload_n 0, 1) := by decide +kernel
theorem dX12_sign_13 : decode cX12_sign 13 = .ok (.aload_n 0, 1) := by decide +kernel
theorem dX12_sign_14 : decode cX12_sign 14 = .ok (.getfield 112, 3) := by decide +kernel
theorem dX12_sign_17 : decode cX12_sign 17 = .ok (.invokevirtual 115, 3) := by decide +kernel
theorem dX12_sign_20 : decode cX12_sign 20 = .ok (.iload_n 1, 1) := by decide +kernel
theorem dX12_sign_21 : decode cX12_sign 21 = .ok (.if_icmp .ne 16, 3) := by decide +kernel
theorem dX12_sign_24 : decode cX12_sign 24 = .ok (.aload_n 0, 1) := by decide +kernel
theorem dX12_sign_25 : decode cX12_sign 25 = .ok (.dup, 1) := by decide +kernel
theorem dX12_sign_26 : decode cX12_sign 26 = .ok (.getfield 112, 3) := by decide +kernel
theorem dX12_sign_29 : decode cX12_sign 29 = .ok (.iconst 1, 1) := by decide +kernel
theorem dX12_sign_30 : decode cX12_sign 30 = .ok (.iadd, 1) := by decide +kernel
theorem dX12_sign_31 : decode cX12_sign 31 = .ok (.putfield 112, 3) := by decide +kernel
theorem dX12_sign_34 : decode cX12_sign 34 = .ok (.goto 12, 3) := by decide +kernel
theorem dX12_sign_37 : decode cX12_sign 37 = .ok (.aload_n 0, 1) := by decide +kernel
theorem dX12_sign_38 : decode cX12_sign 38 = .ok (.iconst 1, 1) := by decide +kernel
theorem dX12_sign_39 : decode cX12_sign 39 = .ok (.aload_n 0, 1) := by decide +kernel
theorem dX12_sign_40 : decode cX12_sign 40 = .ok (.getfield 112, 3) := by decide +kernel
theorem dX12_sign_43 : decode cX12_sign 43 = .ok (.invokevirtual 132, 3) := by decide +kernel
theorem dX12_sign_46 : decode cX12_sign 46 = .ok (.return_, 1) := by decide +kernel
theorem dX12_takesSign_0 : decode cX12_takesSign 0 = .ok (.aload_n 0, 1) := by decide +kernel
theorem dX12_takesSign_1 : decode cX12_takesSign 1 = .ok (.getfield 119, 3) := by decide +kernel
theorem dX12_takesSign_4 : decode cX12_takesSign 4 = .ok (.ifCond .eq 5, 3) := by decide +kernel
theorem dX12_takesSign_7 : decode cX12_takesSign 7 = .ok (.iconst 0, 1) := by decide +kernel
theorem dX12_takesSign_8 : decode cX12_takesSign 8 = .ok (.ireturn, 1) := by decide +kernel
theorem dX12_takesSign_9 : decode cX12_takesSign 9 = .ok (.aload_n 0, 1) := by decide +kernel
theorem dX12_takesSign_10 : decode cX12_takesSign 10 = .ok (.invokevirtual 125, 3) := by decide +kernel
theorem dX12_takesSign_13 : decode cX12_takesSign 13 = .ok (.aload_n 0, 1) := by decide +kernel
theorem dX12_takesSign_14 : decode cX12_takesSign 14 = .ok (.aload_n 0, 1) := by decide +kernel
theorem dX12_takesSign_15 : decode cX12_takesSign 15 = .ok (.getfield 112, 3) := by decide +kernel
theorem dX12_takesSign_18 : decode cX12_takesSign 18 = .ok (.invokevirtual 115, 3) := by decide +kernel
theorem dX12_takesSign_21 : decode cX12_takesSign 21 = .ok (.iload_n 1, 1) := by decide +kernel
theorem dX12_takesSign_22 : decode cX12_takesSign 22 = .ok (.if_icmp .ne 7, 3) := by decide +kernel
theorem dX12_takesSign_25 : decode cX12_takesSign 25 = .ok (.iconst 1, 1) := by decide +kernel
theorem dX12_takesSign_26 : decode cX12_takesSign 26 = .ok (.goto 4, 3) := by decide +kernel
theorem dX12_takesSign_29 : decode cX12_takesSign 29 = .ok (.iconst 0, 1) := by decide +kernel
theorem dX12_takesSign_30 : decode cX12_takesSign 30 = .ok (.istore_n 2, 1) := by decide +kernel
theorem dX12_takesSign_31 : decode cX12_takesSign 31 = .ok (.iload_n 2, 1) := by decide +kernel
theorem dX12_takesSign_32 : decode cX12_takesSign 32 = .ok (.ifCond .eq 13, 3) := by decide +kernel
theorem dX12_takesSign_35 : decode cX12_takesSign 35 = .ok (.aload_n 0, 1) := by decide +kernel
theorem dX12_takesSign_36 : decode cX12_takesSign 36 = .ok (.dup, 1) := by decide +kernel
theorem dX12_takesSign_37 : decode cX12_takesSign 37 = .ok (.getfield 112, 3) := by decide +kernel
theorem dX12_takesSign_40 : decode cX12_takesSign 40 = .ok (.iconst 1, 1) := by decide +kernel
theorem dX12_takesSign_41 : decode cX12_takesSign 41 = .ok (.iadd, 1) := by decide +kernel
theorem dX12_takesSign_42 : decode cX12_takesSign 42 = .ok (.putfield 112, 3) := by decide +kernel
theorem dX12_takesSign_45 : decode cX12_takesSign 45 = .ok (.iload_n 2, 1) := by decide +kernel
theorem dX12_takesSign_46 : decode cX12_takesSign 46 = .ok (.ireturn, 1) := by decide +kernel
theorem dX12_starts_0 : decode cX12_starts 0 = .ok (.aload_n 0, 1) := by decide +kernel
theorem dX12_starts_1 : decode cX12_starts 1 = .ok (.iconst 0, 1) := by decide +kernel
theorem dX12_starts_2 : decode cX12_starts 2 = .ok (.putfield 106, 3) := by decide +kernel
theorem dX12_starts_5 : decode cX12_starts 5 = .ok (.aload_n 0, 1) := by decide +kernel
theorem dX12_starts_6 : decode cX12_starts 6 = .ok (.iload_n 1, 1) := by decide +kernel
theorem dX12_starts_7 : decode cX12_starts 7 = .ok (.putfield 109, 3) := by decide +kernel
theorem dX12_starts_10 : decode cX12_starts 10 = .ok (.aload_n 0, 1) := by decide +kernel
theorem dX12_starts_11 : decode cX12_starts 11 = .ok (.iconst 0, 1) := by decide +kernel
theorem dX12_starts_12 : decode cX12_starts 12 = .ok (.putfield 112, 3) := by decide +kernel
theorem dX12_starts_15 : decode cX12_starts 15 = .ok (.aload_n 0, 1) := by decide +kernel
theorem dX12_starts_16 : decode cX12_starts 16 = .ok (.iconst 0, 1) := by decide +kernel
theorem dX12_starts_17 : decode cX12_starts 17 = .ok (.putfield 119, 3) := by decide +kernel
theorem dX12_starts_20 : decode cX12_starts 20 = .ok (.aload_n 0, 1) := by decide +kernel
theorem dX12_starts_21 : decode cX12_starts 21 = .ok (.iconst (-1), 1) := by decide +kernel
theorem dX12_starts_22 : decode cX12_starts 22 = .ok (.putfield 122, 3) := by decide +kernel
theorem dX12_starts_25 : decode cX12_starts 25 = .ok (.aload_n 0, 1) := by decide +kernel
theorem dX12_starts_26 : decode cX12_starts 26 = .ok (.iconst 0, 1) := by decide +kernel
theorem dX12_starts_27 : decode cX12_starts 27 = .ok (.putfield 159, 3) := by decide +kernel
theorem dX12_starts_30 : decode cX12_starts 30 = .ok (.aload_n 0, 1) := by decide +kernel
theorem dX12_starts_31 : decode cX12_starts 31 = .ok (.iconst 0, 1) := by decide +kernel
theorem dX12_starts_32 : decode cX12_starts 32 = .ok (.putfield 162, 3) := by decide +kernel
theorem dX12_starts_35 : decode cX12_starts 35 = .ok (.aload_n 0, 1) := by decide +kernel
theorem dX12_starts_36 : decode cX12_starts 36 = .ok (.invokevirtual 125, 3) := by decide +kernel
theorem dX12_starts_39 : decode cX12_starts 39 = .ok (.return_, 1) := by decide +kernel
theorem dX12_ends_0 : decode cX12_ends 0 = .ok (.aload_n 0, 1) := by decide +kernel
theorem dX12_ends_1 : decode cX12_ends 1 = .ok (.aload_n 0, 1) := by decide +kernel
theorem dX12_ends_2 : decode cX12_ends 2 = .ok (.getfield 122, 3) := by decide +kernel
theorem dX12_ends_5 : decode cX12_ends 5 = .ok (.putfield 9, 3) := by decide +kernel
theorem dX12_ends_8 : decode cX12_ends 8 = .ok (.aload_n 0, 1) := by decide +kernel
theorem dX12_ends_9 : decode cX12_ends 9 = .ok (.getfield 119, 3) := by decide +kernel
theorem dX12_ends_12 : decode cX12_ends 12 = .ok (.bipush 10, 2) := by decide +kernel
theorem dX12_ends_14 : decode cX12_ends 14 = .ok (.isub, 1) := by decide +kernel
theorem dX12_ends_15 : decode cX12_ends 15 = .ok (.ireturn, 1) := by decide +kernel
theorem dX12_kindHere_0 : decode cX12_kindHere 0 = .ok (.aload_n 0, 1) := by decide +kernel
theorem dX12_kindHere_1 : decode cX12_kindHere 1 = .ok (.bipush 16, 2) := by decide +kernel
theorem dX12_kindHere_3 : decode cX12_kindHere 3 = .ok (.bipush 9, 2) := by decide +kernel
theorem dX12_kindHere_5 : decode cX12_kindHere 5 = .ok (.iconst 5, 1) := by decide +kernel
theorem dX12_kindHere_6 : decode cX12_kindHere 6 = .ok (.iconst 3, 1) := by decide +kernel
theorem dX12_kindHere_7 : decode cX12_kindHere 7 = .ok (.iconst 5, 1) := by decide +kernel
theorem dX12_kindHere_8 : decode cX12_kindHere 8 = .ok (.iconst 0, 1) := by decide +kernel
theorem dX12_kindHere_9 : decode cX12_kindHere 9 = .ok (.invokevirtual 152, 3) := by decide +kernel
theorem dX12_kindHere_12 : decode cX12_kindHere 12 = .ok (.ifCond .eq 5, 3) := by decide +kernel
theorem dX12_kindHere_15 : decode cX12_kindHere 15 = .ok (.iconst 0, 1) := by decide +kernel
theorem dX12_kindHere_16 : decode cX12_kindHere 16 = .ok (.ireturn, 1) := by decide +kernel
theorem dX12_kindHere_17 : decode cX12_kindHere 17 = .ok (.aload_n 0, 1) := by decide +kernel
theorem dX12_kindHere_18 : decode cX12_kindHere 18 = .ok (.iconst 3, 1) := by decide +kernel
theorem dX12_kindHere_19 : decode cX12_kindHere 19 = .ok (.bipush 15, 2) := by decide +kernel
theorem dX12_kindHere_21 : decode cX12_kindHere 21 = .ok (.bipush 12, 2) := by decide +kernel
theorem dX12_kindHere_23 : decode cX12_kindHere 23 = .ok (.bipush 12, 2) := by decide +kernel
theorem dX12_kindHere_25 : decode cX12_kindHere 25 = .ok (.iconst 1, 1) := by decide +kernel
theorem dX12_kindHere_26 : decode cX12_kindHere 26 = .ok (.bipush 18, 2) := by decide +kernel
theorem dX12_kindHere_28 : decode cX12_kindHere 28 = .ok (.invokevirtual 152, 3) := by decide +kernel
theorem dX12_kindHere_31 : decode cX12_kindHere 31 = .ok (.ifCond .eq 5, 3) := by decide +kernel
theorem dX12_kindHere_34 : decode cX12_kindHere 34 = .ok (.iconst 1, 1) := by decide +kernel
theorem dX12_kindHere_35 : decode cX12_kindHere 35 = .ok (.ireturn, 1) := by decide +kernel
theorem dX12_kindHere_36 : decode cX12_kindHere 36 = .ok (.aload_n 0, 1) := by decide +kernel
theorem dX12_kindHere_37 : decode cX12_kindHere 37 = .ok (.bipush 6, 2) := by decide +kernel
theorem dX12_kindHere_39 : decode cX12_kindHere 39 = .ok (.bipush 9, 2) := by decide +kernel
theorem dX12_kindHere_41 : decode cX12_kindHere 41 = .ok (.bipush 18, 2) := by decide +kernel
theorem dX12_kindHere_43 : decode cX12_kindHere 43 = .ok (.iconst 5, 1) := by decide +kernel
theorem dX12_kindHere_44 : decode cX12_kindHere 44 = .ok (.iconst 0, 1) := by decide +kernel
theorem dX12_kindHere_45 : decode cX12_kindHere 45 = .ok (.iconst 0, 1) := by decide +kernel
theorem dX12_kindHere_46 : decode cX12_kindHere 46 = .ok (.invokevirtual 152, 3) := by decide +kernel
theorem dX12_kindHere_49 : decode cX12_kindHere 49 = .ok (.ifCond .eq 5, 3) := by decide +kernel
theorem dX12_kindHere_52 : decode cX12_kindHere 52 = .ok (.iconst 2, 1) := by decide +kernel
theorem dX12_kindHere_53 : decode cX12_kindHere 53 = .ok (.ireturn, 1) := by decide +kernel
theorem dX12_kindHere_54 : decode cX12_kindHere 54 = .ok (.aload_n 0, 1) := by decide +kernel
theorem dX12_kindHere_55 : decode cX12_kindHere 55 = .ok (.bipush 8, 2) := by decide +kernel
theorem dX12_kindHere_57 : decode cX12_kindHere 57 = .ok (.bipush 15, 2) := by decide +kernel
theorem dX12_kindHere_59 : decode cX12_kindHere 59 = .ok (.bipush 16, 2) := by decide +kernel
theorem dX12_kindHere_61 : decode cX12_kindHere 61 = .ok (.iconst 5, 1) := by decide +kernel
theorem dX12_kindHere_62 : decode cX12_kindHere 62 = .ok (.iconst 0, 1) := by decide +kernel
theorem dX12_kindHere_63 : decode cX12_kindHere 63 = .ok (.iconst 0, 1) := by decide +kernel
theorem dX12_kindHere_64 : decode cX12_kindHere 64 = .ok (.invokevirtual 152, 3) := by decide +kernel
theorem dX12_kindHere_67 : decode cX12_kindHere 67 = .ok (.ifCond .eq 7, 3) := by decide +kernel
theorem dX12_kindHere_70 : decode cX12_kindHere 70 = .ok (.iconst 3, 1) := by decide +kernel
theorem dX12_kindHere_71 : decode cX12_kindHere 71 = .ok (.goto 4, 3) := by decide +kernel
theorem dX12_kindHere_74 : decode cX12_kindHere 74 = .ok (.iconst (-1), 1) := by decide +kernel
theorem dX12_kindHere_75 : decode cX12_kindHere 75 = .ok (.ireturn, 1) := by decide +kernel
theorem dX12_mostOf_0 : decode cX12_mostOf 0 = .ok (.iload_n 0, 1) := by decide +kernel
theorem dX12_mostOf_1 : decode cX12_mostOf 1 = .ok (.ifCond .ne 8, 3) := by decide +kernel
theorem dX12_mostOf_4 : decode cX12_mostOf 4 = .ok (.bipush 6, 2) := by decide +kernel
theorem dX12_mostOf_6 : decode cX12_mostOf 6 = .ok (.goto 13, 3) := by decide +kernel
theorem dX12_mostOf_9 : decode cX12_mostOf 9 = .ok (.iload_n 0, 1) := by decide +kernel
theorem dX12_mostOf_10 : decode cX12_mostOf 10 = .ok (.iconst 1, 1) := by decide +kernel
theorem dX12_mostOf_11 : decode cX12_mostOf 11 = .ok (.if_icmp .ne 7, 3) := by decide +kernel
theorem dX12_mostOf_14 : decode cX12_mostOf 14 = .ok (.iconst 4, 1) := by decide +kernel
theorem dX12_mostOf_15 : decode cX12_mostOf 15 = .ok (.goto 4, 3) := by decide +kernel
theorem dX12_mostOf_18 : decode cX12_mostOf 18 = .ok (.iconst 5, 1) := by decide +kernel
theorem dX12_mostOf_19 : decode cX12_mostOf 19 = .ok (.ireturn, 1) := by decide +kernel
theorem dX12_readThread_0 : decode cX12_readThread 0 = .ok (.aload_n 0, 1) := by decide +kernel
theorem dX12_readThread_1 : decode cX12_readThread 1 = .ok (.iconst 0, 1) := by decide +kernel
theorem dX12_readThread_2 : decode cX12_readThread 2 = .ok (.bipush 9, 2) := by decide +kernel
theorem dX12_readThread_4 : decode cX12_readThread 4 = .ok (.invokevirtual 165, 3) := by decide +kernel
theorem dX12_readThread_7 : decode cX12_readThread 7 = .ok (.ireturn, 1) := by decide +kernel
theorem dX12_clause_0 : decode cX12_clause 0 = .ok (.aload_n 0, 1) := by decide +kernel
theorem dX12_clause_1 : decode cX12_clause 1 = .ok (.invokevirtual 169, 3) := by decide +kernel
theorem dX12_clause_4 : decode cX12_clause 4 = .ok (.istore_n 1, 1) := by decide +kernel
theorem dX12_clause_5 : decode cX12_clause 5 = .ok (.iload_n 1, 1) := by decide +kernel
theorem dX12_clause_6 : decode cX12_clause 6 = .ok (.iconst (-1), 1) := by decide +kernel
theorem dX12_clause_7 : decode cX12_clause 7 = .ok (.if_icmp .ne 15, 3) := by decide +kernel
theorem dX12_clause_10 : decode cX12_clause 10 = .ok (.aload_n 0, 1) := by decide +kernel
theorem dX12_clause_11 : decode cX12_clause 11 = .ok (.iconst 1, 1) := by decide +kernel
theorem dX12_clause_12 : decode cX12_clause 12 = .ok (.aload_n 0, 1) := by decide +kernel
theorem dX12_clause_13 : decode cX12_clause 13 = .ok (.getfield 112, 3) := by decide +kernel
theorem dX12_clause_16 : decode cX12_clause 16 = .ok (.invokevirtual 132, 3) := by decide +kernel
theorem dX12_clause_19 : decode cX12_clause 19 = .ok (.goto 39, 3) := by decide +kernel
theorem dX12_clause_22 : decode cX12_clause 22 = .ok (.aload_n 0, 1) := by decide +kernel
theorem dX12_clause_23 : decode cX12_clause 23 = .ok (.getfield 159, 3) := by decide +kernel
theorem dX12_clause_26 : decode cX12_clause 26 = .ok (.bipush 60, 2) := by decide +kernel
theorem dX12_clause_28 : decode cX12_clause 28 = .ok (.if_icmp .eq 21, 3) := by decide +kernel
theorem dX12_clause_31 : decode cX12_clause 31 = .ok (.iload_n 1, 1) := by decide +kernel
theorem dX12_clause_32 : decode cX12_clause 32 = .ok (.iconst 3, 1) := by decide +kernel
theorem dX12_clause_33 : decode cX12_clause 33 = .ok (.if_icmp .ge 25, 3) := by decide +kernel
theorem dX12_clause_36 : decode cX12_clause 36 = .ok (.aload_n 0, 1) := by decide +kernel
theorem dX12_clause_37 : decode cX12_clause 37 = .ok (.getfield 20, 3) := by decide +kernel
theorem dX12_clause_40 : decode cX12_clause 40 = .ok (.iload_n 1, 1) := by decide +kernel
theorem dX12_clause_41 : decode cX12_clause 41 = .ok (.iaload, 1) := by decide +kernel
theorem dX12_clause_42 : decode cX12_clause 42 = .ok (.iload_n 1, 1) := by decide +kernel
theorem dX12_clause_43 : decode cX12_clause 43 = .ok (.invokestatic 172, 3) := by decide +kernel
theorem dX12_clause_46 : decode cX12_clause 46 = .ok (.if_icmp .ne 12, 3) := by decide +kernel
theorem dX12_clause_49 : decode cX12_clause 49 = .ok (.aload_n 0, 1) := by decide +kernel
theorem dX12_clause_50 : decode cX12_clause 50 = .ok (.iconst 3, 1) := by decide +kernel
theorem dX12_clause_51 : decode cX12_clause 51 = .ok (.aload_n 0, 1) := by decide +kernel
theorem dX12_clause_52 : decode cX12_clause 52 = .ok (.getfield 112, 3) := by decide +kernel
theorem dX12_clause_55 : decode cX12_clause 55 = .ok (.invokevirtual 132, 3) := by decide +kernel
theorem dX12_clause_58 : decode cX12_clause 58 = .ok (.aload_n 0, 1) := by decide +kernel
theorem dX12_clause_59 : decode cX12_clause 59 = .ok (.getfield 119, 3) := by decide +kernel
theorem dX12_clause_62 : decode cX12_clause 62 = .ok (.ifCond .eq 4, 3) := by decide +kernel
theorem dX12_clause_65 : decode cX12_clause 65 = .ok (.return_, 1) := by decide +kernel
theorem dX12_clause_66 : decode cX12_clause 66 = .ok (.aload_n 0, 1) := by decide +kernel
theorem dX12_clause_67 : decode cX12_clause 67 = .ok (.invokevirtual 156, 3) := by decide +kernel
theorem dX12_clause_70 : decode cX12_clause 70 = .ok (.aload_n 0, 1) := by decide +kernel
theorem dX12_clause_71 : decode cX12_clause 71 = .ok (.dup, 1) := by decide +kernel
theorem dX12_clause_72 : decode cX12_clause 72 = .ok (.getfield 159, 3) := by decide +kernel
theorem dX12_clause_75 : decode cX12_clause 75 = .ok (.iconst 1, 1) := by decide +kernel
theorem dX12_clause_76 : decode cX12_clause 76 = .ok (.iadd, 1) := by decide +kernel
theorem dX12_clause_77 : decode cX12_clause 77 = .ok (.putfield 159, 3) := by decide +kernel
theorem dX12_clause_80 : decode cX12_clause 80 = .ok (.iload_n 1, 1) := by decide +kernel
theorem dX12_clause_81 : decode cX12_clause 81 = .ok (.iconst 3, 1) := by decide +kernel
theorem dX12_clause_82 : decode cX12_clause 82 = .ok (.if_icmp .ge 12, 3) := by decide +kernel
theorem dX12_clause_85 : decode cX12_clause 85 = .ok (.aload_n 0, 1) := by decide +kernel
theorem dX12_clause_86 : decode cX12_clause 86 = .ok (.getfield 20, 3) := by decide +kernel
theorem dX12_clause_89 : decode cX12_clause 89 = .ok (.iload_n 1, 1) := by decide +kernel
theorem dX12_clause_90 : decode cX12_clause 90 = .ok (.iaload, 1) := by decide +kernel
theorem dX12_clause_91 : decode cX12_clause 91 = .ok (.goto 4, 3) := by decide +kernel
theorem dX12_clause_94 : decode cX12_clause 94 = .ok (.iconst 0, 1) := by decide +kernel
theorem dX12_clause_95 : decode cX12_clause 95 = .ok (.istore_n 2, 1) := by decide +kernel
theorem dX12_clause_96 : decode cX12_clause 96 = .ok (.iload_n 1, 1) := by decide +kernel
theorem dX12_clause_97 : decode cX12_clause 97 = .ok (.tableswitch 181 0 2 #[27, 84, 147], 27) := by decide +kernel
theorem dX12_clause_124 : decode cX12_clause 124 = .ok (.aload_n 0, 1) := by decide +kernel
theorem dX12_clause_125 : decode cX12_clause 125 = .ok (.getfield 28, 3) := by decide +kernel
theorem dX12_clause_128 : decode cX12_clause 128 = .ok (.iload_n 2, 1) := by decide +kernel
theorem dX12_clause_129 : decode cX12_clause 129 = .ok (.aaload, 1) := by decide +kernel
theorem dX12_clause_130 : decode cX12_clause 130 = .ok (.iconst 0, 1) := by decide +kernel
theorem dX12_clause_131 : decode cX12_clause 131 = .ok (.aload_n 0, 1) := by decide +kernel
theorem dX12_clause_132 : decode cX12_clause 132 = .ok (.iconst 1, 1) := by decide +kernel
theorem dX12_clause_133 : decode cX12_clause 133 = .ok (.bipush 30, 2) := by decide +kernel
theorem dX12_clause_135 : decode cX12_clause 135 = .ok (.invokevirtual 165, 3) := by decide +kernel
theorem dX12_clause_138 : decode cX12_clause 138 = .ok (.iastore, 1) := by decide +kernel
theorem dX12_clause_139 : decode cX12_clause 139 = .ok (.aload_n 0, 1) := by decide +kernel
theorem dX12_clause_140 : decode cX12_clause 140 = .ok (.getfield 28, 3) := by decide +kernel
theorem dX12_clause_143 : decode cX12_clause 143 = .ok (.iload_n 2, 1) := by decide +kernel
theorem dX12_clause_144 : decode cX12_clause 144 = .ok (.aaload, 1) := by decide +kernel
theorem dX12_clause_145 : decode cX12_clause 145 = .ok (.iconst 1, 1) := by decide +kernel
theorem dX12_clause_146 : decode cX12_clause 146 = .ok (.aload_n 0, 1) := by decide +kernel
theorem dX12_clause_147 : decode cX12_clause 147 = .ok (.invokevirtual 175, 3) := by decide +kernel
theorem dX12_clause_150 : decode cX12_clause 150 = .ok (.iastore, 1) := by decide +kernel
theorem dX12_clause_151 : decode cX12_clause 151 = .ok (.aload_n 0, 1) := by decide +kernel
theorem dX12_clause_152 : decode cX12_clause 152 = .ok (.getfield 28, 3) := by decide +kernel
theorem dX12_clause_155 : decode cX12_clause 155 = .ok (.iload_n 2, 1) := by decide +kernel
theorem dX12_clause_156 : decode cX12_clause 156 = .ok (.aaload, 1) := by decide +kernel
theorem dX12_clause_157 : decode cX12_clause 157 = .ok (.iconst 2, 1) := by decide +kernel
theorem dX12_clause_158 : decode cX12_clause 158 = .ok (.aload_n 0, 1) := by decide +kernel
theorem dX12_clause_159 : decode cX12_clause 159 = .ok (.invokevirtual 175, 3) := by decide +kernel
theorem dX12_clause_162 : decode cX12_clause 162 = .ok (.iastore, 1) := by decide +kernel
theorem dX12_clause_163 : decode cX12_clause 163 = .ok (.aload_n 0, 1) := by decide +kernel
theorem dX12_clause_164 : decode cX12_clause 164 = .ok (.getfield 28, 3) := by decide +kernel
theorem dX12_clause_167 : decode cX12_clause 167 = .ok (.iload_n 2, 1) := by decide +kernel
theorem dX12_clause_168 : decode cX12_clause 168 = .ok (.aaload, 1) := by decide +kernel
theorem dX12_clause_169 : decode cX12_clause 169 = .ok (.iconst 3, 1) := by decide +kernel
theorem dX12_clause_170 : decode cX12_clause 170 = .ok (.aload_n 0, 1) := by decide +kernel
theorem dX12_clause_171 : decode cX12_clause 171 = .ok (.iconst 0, 1) := by decide +kernel
theorem dX12_clause_172 : decode cX12_clause 172 = .ok (.bipush 9, 2) := by decide +kernel
theorem dX12_clause_174 : decode cX12_clause 174 = .ok (.invokevirtual 165, 3) := by decide +kernel
theorem dX12_clause_177 : decode cX12_clause 177 = .ok (.iastore, 1) := by decide +kernel
theorem dX12_clause_178 : decode cX12_clause 178 = .ok (.goto 125, 3) := by decide +kernel
theorem dX12_clause_181 : decode cX12_clause 181 = .ok (.aload_n 0, 1) := by decide +kernel
theorem dX12_clause_182 : decode cX12_clause 182 = .ok (.invokevirtual 175, 3) := by decide +kernel
theorem dX12_clause_185 : decode cX12_clause 185 = .ok (.istore_n 3, 1) := by decide +kernel
theorem dX12_clause_186 : decode cX12_clause 186 = .ok (.aload_n 0, 1) := by decide +kernel
theorem dX12_clause_187 : decode cX12_clause 187 = .ok (.invokevirtual 125, 3) := by decide +kernel
theorem dX12_clause_190 : decode cX12_clause 190 = .ok (.aload_n 0, 1) := by decide +kernel
theorem dX12_clause_191 : decode cX12_clause 191 = .ok (.getfield 112, 3) := by decide +kernel
theorem dX12_clause_194 : decode cX12_clause 194 = .ok (.istore 4, 2) := by decide +kernel
theorem dX12_clause_196 : decode cX12_clause 196 = .ok (.aload_n 0, 1) := by decide +kernel
theorem dX12_clause_197 : decode cX12_clause 197 = .ok (.invokevirtual 175, 3) := by decide +kernel
theorem dX12_clause_200 : decode cX12_clause 200 = .ok (.istore 5, 2) := by decide +kernel
theorem dX12_clause_202 : decode cX12_clause 202 = .ok (.aload_n 0, 1) := by decide +kernel
theorem dX12_clause_203 : decode cX12_clause 203 = .ok (.getfield 119, 3) := by decide +kernel
theorem dX12_clause_206 : decode cX12_clause 206 = .ok (.ifCond .ne 16, 3) := by decide +kernel
theorem dX12_clause_209 : decode cX12_clause 209 = .ok (.iload_n 3, 1) := by decide +kernel
theorem dX12_clause_210 : decode cX12_clause 210 = .ok (.iload 5, 2) := by decide +kernel
theorem dX12_clause_212 : decode cX12_clause 212 = .ok (.if_icmp .ne 10, 3) := by decide +kernel
theorem dX12_clause_215 : decode cX12_clause 215 = .ok (.aload_n 0, 1) := by decide +kernel
theorem dX12_clause_216 : decode cX12_clause 216 = .ok (.iconst 2, 1) := by decide +kernel
theorem dX12_clause_217 : decode cX12_clause 217 = .ok (.iload 4, 2) := by decide +kernel
theorem dX12_clause_219 : decode cX12_clause 219 = .ok (.invokevirtual 132, 3) := by decide +kernel
theorem dX12_clause_222 : decode cX12_clause 222 = .ok (.aload_n 0, 1) := by decide +kernel
theorem dX12_clause_223 : decode cX12_clause 223 = .ok (.getfield 34, 3) := by decide +kernel
theorem dX12_clause_226 : decode cX12_clause 226 = .ok (.iload_n 2, 1) := by decide +kernel
theorem dX12_clause_227 : decode cX12_clause 227 = .ok (.aaload, 1) := by decide +kernel
theorem dX12_clause_228 : decode cX12_clause 228 = .ok (.iconst 0, 1) := by decide +kernel
theorem dX12_clause_229 : decode cX12_clause 229 = .ok (.iload_n 3, 1) := by decide +kernel
theorem dX12_clause_230 : decode cX12_clause 230 = .ok (.iastore, 1) := by decide +kernel
theorem dX12_clause_231 : decode cX12_clause 231 = .ok (.aload_n 0, 1) := by decide +kernel
theorem dX12_clause_232 : decode cX12_clause 232 = .ok (.getfield 34, 3) := by decide +kernel
theorem dX12_clause_235 : decode cX12_clause 235 = .ok (.iload_n 2, 1) := by decide +kernel
theorem dX12_clause_236 : decode cX12_clause 236 = .ok (.aaload, 1) := by decide +kernel
theorem dX12_clause_237 : decode cX12_clause 237 = .ok (.iconst 1, 1) := by decide +kernel
theorem dX12_clause_238 : decode cX12_clause 238 = .ok (.iload 5, 2) := by decide +kernel
theorem dX12_clause_240 : decode cX12_clause 240 = .ok (.iastore, 1) := by decide +kernel
theorem dX12_clause_241 : decode cX12_clause 241 = .ok (.goto 62, 3) := by decide +kernel
theorem dX12_clause_244 : decode cX12_clause 244 = .ok (.aload_n 0, 1) := by decide +kernel
theorem dX12_clause_245 : decode cX12_clause 245 = .ok (.getfield 40, 3) := by decide +kernel
theorem dX12_clause_248 : decode cX12_clause 248 = .ok (.iload_n 2, 1) := by decide +kernel
theorem dX12_clause_249 : decode cX12_clause 249 = .ok (.aaload, 1) := by decide +kernel
theorem dX12_clause_250 : decode cX12_clause 250 = .ok (.iconst 0, 1) := by decide +kernel
theorem dX12_clause_251 : decode cX12_clause 251 = .ok (.aload_n 0, 1) := by decide +kernel
theorem dX12_clause_252 : decode cX12_clause 252 = .ok (.iconst 0, 1) := by decide +kernel
theorem dX12_clause_253 : decode cX12_clause 253 = .ok (.sipush 200, 3) := by decide +kernel
theorem dX12_clause_256 : decode cX12_clause 256 = .ok (.invokevirtual 165, 3) := by decide +kernel
theorem dX12_clause_259 : decode cX12_clause 259 = .ok (.iastore, 1) := by decide +kernel
theorem dX12_clause_260 : decode cX12_clause 260 = .ok (.aload_n 0, 1) := by decide +kernel
theorem dX12_clause_261 : decode cX12_clause 261 = .ok (.getfield 40, 3) := by decide +kernel
theorem dX12_clause_264 : decode cX12_clause 264 = .ok (.iload_n 2, 1) := by decide +kernel
theorem dX12_clause_265 : decode cX12_clause 265 = .ok (.aaload, 1) := by decide +kernel
theorem dX12_clause_266 : decode cX12_clause 266 = .ok (.iconst 1, 1) := by decide +kernel
theorem dX12_clause_267 : decode cX12_clause 267 = .ok (.aload_n 0, 1) := by decide +kernel
theorem dX12_clause_268 : decode cX12_clause 268 = .ok (.iconst 1, 1) := by decide +kernel
theorem dX12_clause_269 : decode cX12_clause 269 = .ok (.bipush 99, 2) := by decide +kernel
theorem dX12_clause_271 : decode cX12_clause 271 = .ok (.invokevirtual 165, 3) := by decide +kernel
theorem dX12_clause_274 : decode cX12_clause 274 = .ok (.iastore, 1) := by decide +kernel
theorem dX12_clause_275 : decode cX12_clause 275 = .ok (.goto 28, 3) := by decide +kernel
theorem dX12_clause_278 : decode cX12_clause 278 = .ok (.aload_n 0, 1) := by decide +kernel
theorem dX12_clause_279 : decode cX12_clause 279 = .ok (.iconst 0, 1) := by decide +kernel
theorem dX12_clause_280 : decode cX12_clause 280 = .ok (.bipush 99, 2) := by decide +kernel
theorem dX12_clause_282 : decode cX12_clause 282 = .ok (.invokevirtual 165, 3) := by decide +kernel
theorem dX12_clause_285 : decode cX12_clause 285 = .ok (.istore_n 3, 1) := by decide +kernel
theorem dX12_clause_286 : decode cX12_clause 286 = .ok (.aload_n 0, 1) := by decide +kernel
theorem dX12_clause_287 : decode cX12_clause 287 = .ok (.getfield 119, 3) := by decide +kernel
theorem dX12_clause_290 : decode cX12_clause 290 = .ok (.ifCond .ne 13, 3) := by decide +kernel
theorem dX12_clause_293 : decode cX12_clause 293 = .ok (.aload_n 0, 1) := by decide +kernel
theorem dX12_clause_294 : decode cX12_clause 294 = .ok (.getfield 20, 3) := by decide +kernel
theorem dX12_clause_297 : decode cX12_clause 297 = .ok (.iconst 3, 1) := by decide +kernel
theorem dX12_clause_298 : decode cX12_clause 298 = .ok (.iload_n 3, 1) := by decide +kernel
theorem dX12_clause_299 : decode cX12_clause 299 = .ok (.iastore, 1) := by decide +kernel
theorem dX12_clause_300 : decode cX12_clause 300 = .ok (.goto 3, 3) := by decide +kernel
theorem dX12_clause_303 : decode cX12_clause 303 = .ok (.aload_n 0, 1) := by decide +kernel
theorem dX12_clause_304 : decode cX12_clause 304 = .ok (.bipush 59, 2) := by decide +kernel
theorem dX12_clause_306 : decode cX12_clause 306 = .ok (.invokevirtual 178, 3) := by decide +kernel
theorem dX12_clause_309 : decode cX12_clause 309 = .ok (.iload_n 1, 1) := by decide +kernel
theorem dX12_clause_310 : decode cX12_clause 310 = .ok (.iconst 3, 1) := by decide +kernel
theorem dX12_clause_311 : decode cX12_clause 311 = .ok (.if_icmp .ge 24, 3) := by decide +kernel
theorem dX12_clause_314 : decode cX12_clause 314 = .ok (.aload_n 0, 1) := by decide +kernel
theorem dX12_clause_315 : decode cX12_clause 315 = .ok (.getfield 20, 3) := by decide +kernel
theorem dX12_clause_318 : decode cX12_clause 318 = .ok (.iload_n 1, 1) := by decide +kernel
theorem dX12_clause_319 : decode cX12_clause 319 = .ok (.dup2, 1) := by decide +kernel
theorem dX12_clause_320 : decode cX12_clause 320 = .ok (.iaload, 1) := by decide +kernel
theorem dX12_clause_321 : decode cX12_clause 321 = .ok (.aload_n 0, 1) := by decide +kernel
theorem dX12_clause_322 : decode cX12_clause 322 = .ok (.getfield 119, 3) := by decide +kernel
theorem dX12_clause_325 : decode cX12_clause 325 = .ok (.ifCond .ne 7, 3) := by decide +kernel
theorem dX12_clause_328 : decode cX12_clause 328 = .ok (.iconst 1, 1) := by decide +kernel
theorem dX12_clause_329 : decode cX12_clause 329 = .ok (.goto 4, 3) := by decide +kernel
theorem dX12_clause_332 : decode cX12_clause 332 = .ok (.iconst 0, 1) := by decide +kernel
theorem dX12_clause_333 : decode cX12_clause 333 = .ok (.iadd, 1) := by decide +kernel
theorem dX12_clause_334 : decode cX12_clause 334 = .ok (.iastore, 1) := by decide +kernel
theorem dX12_clause_335 : decode cX12_clause 335 = .ok (.return_, 1) := by decide +kernel
theorem dX12_house_0 : decode cX12_house 0 = .ok (.aload_n 0, 1) := by decide +kernel
theorem dX12_house_1 : decode cX12_house 1 = .ok (.iconst 0, 1) := by decide +kernel
theorem dX12_house_2 : decode cX12_house 2 = .ok (.putfield 103, 3) := by decide +kernel
theorem dX12_house_5 : decode cX12_house 5 = .ok (.aload_n 0, 1) := by decide +kernel
theorem dX12_house_6 : decode cX12_house 6 = .ok (.iload_n 1, 1) := by decide +kernel
theorem dX12_house_7 : decode cX12_house 7 = .ok (.iconst 0, 1) := by decide +kernel
theorem dX12_house_8 : decode cX12_house 8 = .ok (.aload_n 0, 1) := by decide +kernel
theorem dX12_house_9 : decode cX12_house 9 = .ok (.getfield 106, 3) := by decide +kernel
theorem dX12_house_12 : decode cX12_house 12 = .ok (.invokestatic 137, 3) := by decide +kernel
theorem dX12_house_15 : decode cX12_house 15 = .ok (.ifCond .ne 7, 3) := by decide +kernel
theorem dX12_house_18 : decode cX12_house 18 = .ok (.iconst 1, 1) := by decide +kernel
theorem dX12_house_19 : decode cX12_house 19 = .ok (.goto 4, 3) := by decide +kernel
theorem dX12_house_22 : decode cX12_house 22 = .ok (.iconst 0, 1) := by decide +kernel
theorem dX12_house_23 : decode cX12_house 23 = .ok (.iconst 1, 1) := by decide +kernel
theorem dX12_house_24 : decode cX12_house 24 = .ok (.iconst 1, 1) := by decide +kernel
theorem dX12_house_25 : decode cX12_house 25 = .ok (.invokevirtual 182, 3) := by decide +kernel
theorem dX12_house_28 : decode cX12_house 28 = .ok (.ifCond .eq 5, 3) := by decide +kernel
theorem dX12_house_31 : decode cX12_house 31 = .ok (.iconst 0, 1) := by decide +kernel
theorem dX12_house_32 : decode cX12_house 32 = .ok (.ireturn, 1) := by decide +kernel
theorem dX12_house_33 : decode cX12_house 33 = .ok (.aload_n 0, 1) := by decide +kernel
theorem dX12_house_34 : decode cX12_house 34 = .ok (.iload_n 1, 1) := by decide +kernel
theorem dX12_house_35 : decode cX12_house 35 = .ok (.invokevirtual 186, 3) := by decide +kernel
theorem dX12_house_38 : decode cX12_house 38 = .ok (.aload_n 0, 1) := by decide +kernel
theorem dX12_house_39 : decode cX12_house 39 = .ok (.invokevirtual 97, 3) := by decide +kernel
theorem dX12_house_42 : decode cX12_house 42 = .ok (.aload_n 0, 1) := by decide +kernel
theorem dX12_house_43 : decode cX12_house 43 = .ok (.getfield 119, 3) := by decide +kernel
theorem dX12_house_46 : decode cX12_house 46 = .ok (.ifCond .ne 25, 3) := by decide +kernel
theorem dX12_house_49 : decode cX12_house 49 = .ok (.aload_n 0, 1) := by decide +kernel
theorem dX12_house_50 : decode cX12_house 50 = .ok (.getfield 112, 3) := by decide +kernel
theorem dX12_house_53 : decode cX12_house 53 = .ok (.aload_n 0, 1) := by decide +kernel
theorem dX12_house_54 : decode cX12_house 54 = .ok (.getfield 109, 3) := by decide +kernel
theorem dX12_house_57 : decode cX12_house 57 = .ok (.if_icmp .ge 14, 3) := by decide +kernel
theorem dX12_house_60 : decode cX12_house 60 = .ok (.aload_n 0, 1) := by decide +kernel
theorem dX12_house_61 : decode cX12_house 61 = .ok (.invokevirtual 189, 3) := by decide +kernel
theorem dX12_house_64 : decode cX12_house 64 = .ok (.aload_n 0, 1) := by decide +kernel
theorem dX12_house_65 : decode cX12_house 65 = .ok (.invokevirtual 125, 3) := by decide +kernel
theorem dX12_house_68 : decode cX12_house 68 = .ok (.goto (-26), 3) := by decide +kernel
theorem dX12_house_71 : decode cX12_house 71 = .ok (.aload_n 0, 1) := by decide +kernel
theorem dX12_house_72 : decode cX12_house 72 = .ok (.getfield 119, 3) := by decide +kernel
theorem dX12_house_75 : decode cX12_house 75 = .ok (.ifCond .eq 8, 3) := by decide +kernel
theorem dX12_house_78 : decode cX12_house 78 = .ok (.aload_n 0, 1) := by decide +kernel
theorem dX12_house_79 : decode cX12_house 79 = .ok (.invokevirtual 192, 3) := by decide +kernel
theorem dX12_house_82 : decode cX12_house 82 = .ok (.ireturn, 1) := by decide +kernel
theorem dX12_house_83 : decode cX12_house 83 = .ok (.aload_n 0, 1) := by decide +kernel
theorem dX12_house_84 : decode cX12_house 84 = .ok (.iconst (-1), 1) := by decide +kernel
theorem dX12_house_85 : decode cX12_house 85 = .ok (.putfield 9, 3) := by decide +kernel
theorem dX12_house_88 : decode cX12_house 88 = .ok (.aload_n 0, 1) := by decide +kernel
theorem dX12_house_89 : decode cX12_house 89 = .ok (.invokevirtual 100, 3) := by decide +kernel
theorem dX12_house_92 : decode cX12_house 92 = .ok (.aload_n 0, 1) := by decide +kernel
theorem dX12_house_93 : decode cX12_house 93 = .ok (.getfield 23, 3) := by decide +kernel
theorem dX12_house_96 : decode cX12_house 96 = .ok (.iconst 0, 1) := by decide +kernel
theorem dX12_house_97 : decode cX12_house 97 = .ok (.iaload, 1) := by decide +kernel
theorem dX12_house_98 : decode cX12_house 98 = .ok (.ireturn, 1) := by decide +kernel
theorem dX12_lays_0 : decode cX12_lays 0 = .ok (.iconst 0, 1) := by decide +kernel
theorem dX12_lays_1 : decode cX12_lays 1 = .ok (.istore_n 3, 1) := by decide +kernel
theorem dX12_lays_2 : decode cX12_lays 2 = .ok (.iload_n 3, 1) := by decide +kernel
theorem dX12_lays_3 : decode cX12_lays 3 = .ok (.iload_n 2, 1) := by decide +kernel
theorem dX12_lays_4 : decode cX12_lays 4 = .ok (.if_icmp .ge 39, 3) := by decide +kernel
theorem dX12_lays_7 : decode cX12_lays 7 = .ok (.iconst 0, 1) := by decide +kernel
theorem dX12_lays_8 : decode cX12_lays 8 = .ok (.istore 4, 2) := by decide +kernel
theorem dX12_lays_10 : decode cX12_lays 10 = .ok (.iload 4, 2) := by decide +kernel
theorem dX12_lays_12 : decode cX12_lays 12 = .ok (.aload_n 1, 1) := by decide +kernel
theorem dX12_lays_13 : decode cX12_lays 13 = .ok (.iload_n 3, 1) := by decide +kernel
theorem dX12_lays_14 : decode cX12_lays 14 = .ok (.aaload, 1) := by decide +kernel
theorem dX12_lays_15 : decode cX12_lays 15 = .ok (.arraylength, 1) := by decide +kernel
theorem dX12_lays_16 : decode cX12_lays 16 = .ok (.if_icmp .ge 21, 3) := by decide +kernel
theorem dX12_lays_19 : decode cX12_lays 19 = .ok (.aload_n 1, 1) := by decide +kernel
theorem dX12_lays_20 : decode cX12_lays 20 = .ok (.iload_n 3, 1) := by decide +kernel
theorem dX12_lays_21 : decode cX12_lays 21 = .ok (.aaload, 1) := by decide +kernel
theorem dX12_lays_22 : decode cX12_lays 22 = .ok (.iload 4, 2) := by decide +kernel
theorem dX12_lays_24 : decode cX12_lays 24 = .ok (.aload_n 0, 1) := by decide +kernel
theorem dX12_lays_25 : decode cX12_lays 25 = .ok (.iload_n 3, 1) := by decide +kernel
theorem dX12_lays_26 : decode cX12_lays 26 = .ok (.aaload, 1) := by decide +kernel
theorem dX12_lays_27 : decode cX12_lays 27 = .ok (.iload 4, 2) := by decide +kernel
theorem dX12_lays_29 : decode cX12_lays 29 = .ok (.iaload, 1) := by decide +kernel
theorem dX12_lays_30 : decode cX12_lays 30 = .ok (.iastore, 1) := by decide +kernel
theorem dX12_lays_31 : decode cX12_lays 31 = .ok (.iinc 4 1, 3) := by decide +kernel
theorem dX12_lays_34 : decode cX12_lays 34 = .ok (.goto (-24), 3) := by decide +kernel
theorem dX12_lays_37 : decode cX12_lays 37 = .ok (.iinc 3 1, 3) := by decide +kernel
theorem dX12_lays_40 : decode cX12_lays 40 = .ok (.goto (-38), 3) := by decide +kernel
theorem dX12_lays_43 : decode cX12_lays 43 = .ok (.return_, 1) := by decide +kernel
theorem dX12_copies_0 : decode cX12_copies 0 = .ok (.iconst 0, 1) := by decide +kernel
theorem dX12_copies_1 : decode cX12_copies 1 = .ok (.istore_n 2, 1) := by decide +kernel
theorem dX12_copies_2 : decode cX12_copies 2 = .ok (.iload_n 2, 1) := by decide +kernel
theorem dX12_copies_3 : decode cX12_copies 3 = .ok (.bipush 31, 2) := by decide +kernel
theorem dX12_copies_5 : decode cX12_copies 5 = .ok (.if_icmp .ge 15, 3) := by decide +kernel
theorem dX12_copies_8 : decode cX12_copies 8 = .ok (.aload_n 1, 1) := by decide +kernel
theorem dX12_copies_9 : decode cX12_copies 9 = .ok (.iload_n 2, 1) := by decide +kernel
theorem dX12_copies_10 : decode cX12_copies 10 = .ok (.aload_n 0, 1) := by decide +kernel
theorem dX12_copies_11 : decode cX12_copies 11 = .ok (.iload_n 2, 1) := by decide +kernel
theorem dX12_copies_12 : decode cX12_copies 12 = .ok (.iaload, 1) := by decide +kernel
theorem dX12_copies_13 : decode cX12_copies 13 = .ok (.iastore, 1) := by decide +kernel
theorem dX12_copies_14 : decode cX12_copies 14 = .ok (.iinc 2 1, 3) := by decide +kernel
theorem dX12_copies_17 : decode cX12_copies 17 = .ok (.goto (-15), 3) := by decide +kernel
theorem dX12_copies_20 : decode cX12_copies 20 = .ok (.return_, 1) := by decide +kernel
theorem dX12_beginsAnew_0 : decode cX12_beginsAnew 0 = .ok (.iconst 0, 1) := by decide +kernel
theorem dX12_beginsAnew_1 : decode cX12_beginsAnew 1 = .ok (.istore_n 1, 1) := by decide +kernel
theorem dX12_beginsAnew_2 : decode cX12_beginsAnew 2 = .ok (.iload_n 1, 1) := by decide +kernel
theorem dX12_beginsAnew_3 : decode cX12_beginsAnew 3 = .ok (.iconst 4, 1) := by decide +kernel
theorem dX12_beginsAnew_4 : decode cX12_beginsAnew 4 = .ok (.if_icmp .ge 21, 3) := by decide +kernel
theorem dX12_beginsAnew_7 : decode cX12_beginsAnew 7 = .ok (.aload_n 0, 1) := by decide +kernel
theorem dX12_beginsAnew_8 : decode cX12_beginsAnew 8 = .ok (.getfield 23, 3) := by decide +kernel
theorem dX12_beginsAnew_11 : decode cX12_beginsAnew 11 = .ok (.iload_n 1, 1) := by decide +kernel
theorem dX12_beginsAnew_12 : decode cX12_beginsAnew 12 = .ok (.aload_n 0, 1) := by decide +kernel
theorem dX12_beginsAnew_13 : decode cX12_beginsAnew 13 = .ok (.getfield 20, 3) := by decide +kernel
theorem dX12_beginsAnew_16 : decode cX12_beginsAnew 16 = .ok (.iload_n 1, 1) := by decide +kernel
theorem dX12_beginsAnew_17 : decode cX12_beginsAnew 17 = .ok (.iaload, 1) := by decide +kernel
theorem dX12_beginsAnew_18 : decode cX12_beginsAnew 18 = .ok (.iastore, 1) := by decide +kernel
theorem dX12_beginsAnew_19 : decode cX12_beginsAnew 19 = .ok (.iinc 1 1, 3) := by decide +kernel
theorem dX12_beginsAnew_22 : decode cX12_beginsAnew 22 = .ok (.goto (-20), 3) := by decide +kernel
theorem dX12_beginsAnew_25 : decode cX12_beginsAnew 25 = .ok (.aload_n 0, 1) := by decide +kernel
theorem dX12_beginsAnew_26 : decode cX12_beginsAnew 26 = .ok (.getfield 28, 3) := by decide +kernel
theorem dX12_beginsAnew_29 : decode cX12_beginsAnew 29 = .ok (.aload_n 0, 1) := by decide +kernel
theorem dX12_beginsAnew_30 : decode cX12_beginsAnew 30 = .ok (.getfield 31, 3) := by decide +kernel
theorem dX12_beginsAnew_33 : decode cX12_beginsAnew 33 = .ok (.aload_n 0, 1) := by decide +kernel
theorem dX12_beginsAnew_34 : decode cX12_beginsAnew 34 = .ok (.getfield 23, 3) := by decide +kernel
theorem dX12_beginsAnew_37 : decode cX12_beginsAnew 37 = .ok (.iconst 0, 1) := by decide +kernel
theorem dX12_beginsAnew_38 : decode cX12_beginsAnew 38 = .ok (.iaload, 1) := by decide +kernel
theorem dX12_beginsAnew_39 : decode cX12_beginsAnew 39 = .ok (.invokestatic 195, 3) := by decide +kernel
theorem dX12_beginsAnew_42 : decode cX12_beginsAnew 42 = .ok (.aload_n 0, 1) := by decide +kernel
theorem dX12_beginsAnew_43 : decode cX12_beginsAnew 43 = .ok (.getfield 34, 3) := by decide +kernel
theorem dX12_beginsAnew_46 : decode cX12_beginsAnew 46 = .ok (.aload_n 0, 1) := by decide +kernel
theorem dX12_beginsAnew_47 : decode cX12_beginsAnew 47 = .ok (.getfield 37, 3) := by decide +kernel
theorem dX12_beginsAnew_50 : decode cX12_beginsAnew 50 = .ok (.aload_n 0, 1) := by decide +kernel
theorem dX12_beginsAnew_51 : decode cX12_beginsAnew 51 = .ok (.getfield 23, 3) := by decide +kernel
theorem dX12_beginsAnew_54 : decode cX12_beginsAnew 54 = .ok (.iconst 1, 1) := by decide +kernel
theorem dX12_beginsAnew_55 : decode cX12_beginsAnew 55 = .ok (.iaload, 1) := by decide +kernel
theorem dX12_beginsAnew_56 : decode cX12_beginsAnew 56 = .ok (.invokestatic 195, 3) := by decide +kernel
theorem dX12_beginsAnew_59 : decode cX12_beginsAnew 59 = .ok (.aload_n 0, 1) := by decide +kernel
theorem dX12_beginsAnew_60 : decode cX12_beginsAnew 60 = .ok (.getfield 40, 3) := by decide +kernel
theorem dX12_beginsAnew_63 : decode cX12_beginsAnew 63 = .ok (.aload_n 0, 1) := by decide +kernel
theorem dX12_beginsAnew_64 : decode cX12_beginsAnew 64 = .ok (.getfield 43, 3) := by decide +kernel
theorem dX12_beginsAnew_67 : decode cX12_beginsAnew 67 = .ok (.aload_n 0, 1) := by decide +kernel
theorem dX12_beginsAnew_68 : decode cX12_beginsAnew 68 = .ok (.getfield 23, 3) := by decide +kernel
theorem dX12_beginsAnew_71 : decode cX12_beginsAnew 71 = .ok (.iconst 2, 1) := by decide +kernel
theorem dX12_beginsAnew_72 : decode cX12_beginsAnew 72 = .ok (.iaload, 1) := by decide +kernel
theorem dX12_beginsAnew_73 : decode cX12_beginsAnew 73 = .ok (.invokestatic 195, 3) := by decide +kernel
theorem dX12_beginsAnew_76 : decode cX12_beginsAnew 76 = .ok (.aload_n 0, 1) := by decide +kernel
theorem dX12_beginsAnew_77 : decode cX12_beginsAnew 77 = .ok (.aload_n 0, 1) := by decide +kernel
theorem dX12_beginsAnew_78 : decode cX12_beginsAnew 78 = .ok (.getfield 23, 3) := by decide +kernel
theorem dX12_beginsAnew_81 : decode cX12_beginsAnew 81 = .ok (.iconst 1, 1) := by decide +kernel
theorem dX12_beginsAnew_82 : decode cX12_beginsAnew 82 = .ok (.iaload, 1) := by decide +kernel
theorem dX12_beginsAnew_83 : decode cX12_beginsAnew 83 = .ok (.putfield 199, 3) := by decide +kernel
theorem dX12_beginsAnew_86 : decode cX12_beginsAnew 86 = .ok (.iconst 0, 1) := by decide +kernel
theorem dX12_beginsAnew_87 : decode cX12_beginsAnew 87 = .ok (.istore_n 1, 1) := by decide +kernel
theorem dX12_beginsAnew_88 : decode cX12_beginsAnew 88 = .ok (.iload_n 1, 1) := by decide +kernel
theorem dX12_beginsAnew_89 : decode cX12_beginsAnew 89 = .ok (.bipush 31, 2) := by decide +kernel
theorem dX12_beginsAnew_91 : decode cX12_beginsAnew 91 = .ok (.if_icmp .ge 16, 3) := by decide +kernel
theorem dX12_beginsAnew_94 : decode cX12_beginsAnew 94 = .ok (.aload_n 0, 1) := by decide +kernel
theorem dX12_beginsAnew_95 : decode cX12_beginsAnew 95 = .ok (.getfield 67, 3) := by decide +kernel
theorem dX12_beginsAnew_98 : decode cX12_beginsAnew 98 = .ok (.iload_n 1, 1) := by decide +kernel
theorem dX12_beginsAnew_99 : decode cX12_beginsAnew 99 = .ok (.iconst 0, 1) := by decide +kernel
theorem dX12_beginsAnew_100 : decode cX12_beginsAnew 100 = .ok (.iastore, 1) := by decide +kernel
theorem dX12_beginsAnew_101 : decode cX12_beginsAnew 101 = .ok (.iinc 1 1, 3) := by decide +kernel
theorem dX12_beginsAnew_104 : decode cX12_beginsAnew 104 = .ok (.goto (-16), 3) := by decide +kernel
theorem dX12_beginsAnew_107 : decode cX12_beginsAnew 107 = .ok (.iconst 0, 1) := by decide +kernel
theorem dX12_beginsAnew_108 : decode cX12_beginsAnew 108 = .ok (.istore_n 1, 1) := by decide +kernel
theorem dX12_beginsAnew_109 : decode cX12_beginsAnew 109 = .ok (.iload_n 1, 1) := by decide +kernel
theorem dX12_beginsAnew_110 : decode cX12_beginsAnew 110 = .ok (.bipush 6, 2) := by decide +kernel
theorem dX12_beginsAnew_112 : decode cX12_beginsAnew 112 = .ok (.if_icmp .ge 18, 3) := by decide +kernel
theorem dX12_beginsAnew_115 : decode cX12_beginsAnew 115 = .ok (.aload_n 0, 1) := by decide +kernel
theorem dX12_beginsAnew_116 : decode cX12_beginsAnew 116 = .ok (.getfield 67, 3) := by decide +kernel
theorem dX12_beginsAnew_119 : decode cX12_beginsAnew 119 = .ok (.iconst 0, 1) := by decide +kernel
theorem dX12_beginsAnew_120 : decode cX12_beginsAnew 120 = .ok (.iload_n 1, 1) := by decide +kernel
theorem dX12_beginsAnew_121 : decode cX12_beginsAnew 121 = .ok (.iadd, 1) := by decide +kernel
theorem dX12_beginsAnew_122 : decode cX12_beginsAnew 122 = .ok (.iconst (-1), 1) := by decide +kernel
theorem dX12_beginsAnew_123 : decode cX12_beginsAnew 123 = .ok (.iastore, 1) := by decide +kernel
theorem dX12_beginsAnew_124 : decode cX12_beginsAnew 124 = .ok (.iinc 1 1, 3) := by decide +kernel
theorem dX12_beginsAnew_127 : decode cX12_beginsAnew 127 = .ok (.goto (-18), 3) := by decide +kernel
theorem dX12_beginsAnew_130 : decode cX12_beginsAnew 130 = .ok (.iconst 0, 1) := by decide +kernel
theorem dX12_beginsAnew_131 : decode cX12_beginsAnew 131 = .ok (.istore_n 1, 1) := by decide +kernel
theorem dX12_beginsAnew_132 : decode cX12_beginsAnew 132 = .ok (.iload_n 1, 1) := by decide +kernel
theorem dX12_beginsAnew_133 : decode cX12_beginsAnew 133 = .ok (.iconst 5, 1) := by decide +kernel
