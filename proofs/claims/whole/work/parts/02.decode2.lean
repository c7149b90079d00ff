/-! decode rows -/
theorem dX4_illegal_3 : decode cX4_illegal 3 = .ok (.invokevirtual 135, 3) := by decide +kernel
theorem dX4_illegal_6 : decode cX4_illegal 6 = .ok (.ireturn, 1) := by decide +kernel
theorem dX4_f_0 : decode cX4_f 0 = .ok (.iload_n 0, 1) := by decide +kernel
theorem dX4_f_1 : decode cX4_f 1 = .ok (.bipush 12, 2) := by decide +kernel
theorem dX4_f_3 : decode cX4_f 3 = .ok (.iushr, 1) := by decide +kernel
theorem dX4_f_4 : decode cX4_f 4 = .ok (.bipush 7, 2) := by decide +kernel
theorem dX4_f_6 : decode cX4_f 6 = .ok (.iand, 1) := by decide +kernel
theorem dX4_f_7 : decode cX4_f 7 = .ok (.ireturn, 1) := by decide +kernel
theorem dX4_g_0 : decode cX4_g 0 = .ok (.iload_n 0, 1) := by decide +kernel
theorem dX4_g_1 : decode cX4_g 1 = .ok (.bipush 25, 2) := by decide +kernel
theorem dX4_g_3 : decode cX4_g 3 = .ok (.iushr, 1) := by decide +kernel
theorem dX4_g_4 : decode cX4_g 4 = .ok (.ireturn, 1) := by decide +kernel
theorem dX4_s_0 : decode cX4_s 0 = .ok (.iload_n 0, 1) := by decide +kernel
theorem dX4_s_1 : decode cX4_s 1 = .ok (.bipush 15, 2) := by decide +kernel
theorem dX4_s_3 : decode cX4_s 3 = .ok (.iushr, 1) := by decide +kernel
theorem dX4_s_4 : decode cX4_s 4 = .ok (.bipush 31, 2) := by decide +kernel
theorem dX4_s_6 : decode cX4_s 6 = .ok (.iand, 1) := by decide +kernel
theorem dX4_s_7 : decode cX4_s 7 = .ok (.ireturn, 1) := by decide +kernel
theorem dX4_offsetI_0 : decode cX4_offsetI 0 = .ok (.iload_n 0, 1) := by decide +kernel
theorem dX4_offsetI_1 : decode cX4_offsetI 1 = .ok (.bipush 20, 2) := by decide +kernel
theorem dX4_offsetI_3 : decode cX4_offsetI 3 = .ok (.ishr, 1) := by decide +kernel
theorem dX4_offsetI_4 : decode cX4_offsetI 4 = .ok (.ireturn, 1) := by decide +kernel
theorem dX4_offsetS_0 : decode cX4_offsetS 0 = .ok (.iload_n 0, 1) := by decide +kernel
theorem dX4_offsetS_1 : decode cX4_offsetS 1 = .ok (.bipush 25, 2) := by decide +kernel
theorem dX4_offsetS_3 : decode cX4_offsetS 3 = .ok (.ishr, 1) := by decide +kernel
theorem dX4_offsetS_4 : decode cX4_offsetS 4 = .ok (.iconst 5, 1) := by decide +kernel
theorem dX4_offsetS_5 : decode cX4_offsetS 5 = .ok (.ishl, 1) := by decide +kernel
theorem dX4_offsetS_6 : decode cX4_offsetS 6 = .ok (.iload_n 0, 1) := by decide +kernel
theorem dX4_offsetS_7 : decode cX4_offsetS 7 = .ok (.bipush 7, 2) := by decide +kernel
theorem dX4_offsetS_9 : decode cX4_offsetS 9 = .ok (.iushr, 1) := by decide +kernel
theorem dX4_offsetS_10 : decode cX4_offsetS 10 = .ok (.bipush 31, 2) := by decide +kernel
theorem dX4_offsetS_12 : decode cX4_offsetS 12 = .ok (.iand, 1) := by decide +kernel
theorem dX4_offsetS_13 : decode cX4_offsetS 13 = .ok (.ior, 1) := by decide +kernel
theorem dX4_offsetS_14 : decode cX4_offsetS 14 = .ok (.ireturn, 1) := by decide +kernel
theorem dX4_offsetB_0 : decode cX4_offsetB 0 = .ok (.iload_n 0, 1) := by decide +kernel
theorem dX4_offsetB_1 : decode cX4_offsetB 1 = .ok (.bipush 31, 2) := by decide +kernel
theorem dX4_offsetB_3 : decode cX4_offsetB 3 = .ok (.ishr, 1) := by decide +kernel
theorem dX4_offsetB_4 : decode cX4_offsetB 4 = .ok (.bipush 12, 2) := by decide +kernel
theorem dX4_offsetB_6 : decode cX4_offsetB 6 = .ok (.ishl, 1) := by decide +kernel
theorem dX4_offsetB_7 : decode cX4_offsetB 7 = .ok (.iload_n 0, 1) := by decide +kernel
theorem dX4_offsetB_8 : decode cX4_offsetB 8 = .ok (.bipush 7, 2) := by decide +kernel
theorem dX4_offsetB_10 : decode cX4_offsetB 10 = .ok (.iushr, 1) := by decide +kernel
theorem dX4_offsetB_11 : decode cX4_offsetB 11 = .ok (.iconst 1, 1) := by decide +kernel
theorem dX4_offsetB_12 : decode cX4_offsetB 12 = .ok (.iand, 1) := by decide +kernel
theorem dX4_offsetB_13 : decode cX4_offsetB 13 = .ok (.bipush 11, 2) := by decide +kernel
theorem dX4_offsetB_15 : decode cX4_offsetB 15 = .ok (.ishl, 1) := by decide +kernel
theorem dX4_offsetB_16 : decode cX4_offsetB 16 = .ok (.ior, 1) := by decide +kernel
theorem dX4_offsetB_17 : decode cX4_offsetB 17 = .ok (.iload_n 0, 1) := by decide +kernel
theorem dX4_offsetB_18 : decode cX4_offsetB 18 = .ok (.bipush 25, 2) := by decide +kernel
theorem dX4_offsetB_20 : decode cX4_offsetB 20 = .ok (.iushr, 1) := by decide +kernel
theorem dX4_offsetB_21 : decode cX4_offsetB 21 = .ok (.bipush 63, 2) := by decide +kernel
theorem dX4_offsetB_23 : decode cX4_offsetB 23 = .ok (.iand, 1) := by decide +kernel
theorem dX4_offsetB_24 : decode cX4_offsetB 24 = .ok (.iconst 5, 1) := by decide +kernel
theorem dX4_offsetB_25 : decode cX4_offsetB 25 = .ok (.ishl, 1) := by decide +kernel
theorem dX4_offsetB_26 : decode cX4_offsetB 26 = .ok (.ior, 1) := by decide +kernel
theorem dX4_offsetB_27 : decode cX4_offsetB 27 = .ok (.iload_n 0, 1) := by decide +kernel
theorem dX4_offsetB_28 : decode cX4_offsetB 28 = .ok (.bipush 8, 2) := by decide +kernel
theorem dX4_offsetB_30 : decode cX4_offsetB 30 = .ok (.iushr, 1) := by decide +kernel
theorem dX4_offsetB_31 : decode cX4_offsetB 31 = .ok (.bipush 15, 2) := by decide +kernel
theorem dX4_offsetB_33 : decode cX4_offsetB 33 = .ok (.iand, 1) := by decide +kernel
theorem dX4_offsetB_34 : decode cX4_offsetB 34 = .ok (.iconst 1, 1) := by decide +kernel
theorem dX4_offsetB_35 : decode cX4_offsetB 35 = .ok (.ishl, 1) := by decide +kernel
theorem dX4_offsetB_36 : decode cX4_offsetB 36 = .ok (.ior, 1) := by decide +kernel
theorem dX4_offsetB_37 : decode cX4_offsetB 37 = .ok (.ireturn, 1) := by decide +kernel
theorem dX4_offsetJ_0 : decode cX4_offsetJ 0 = .ok (.iload_n 0, 1) := by decide +kernel
theorem dX4_offsetJ_1 : decode cX4_offsetJ 1 = .ok (.bipush 31, 2) := by decide +kernel
theorem dX4_offsetJ_3 : decode cX4_offsetJ 3 = .ok (.ishr, 1) := by decide +kernel
theorem dX4_offsetJ_4 : decode cX4_offsetJ 4 = .ok (.bipush 20, 2) := by decide +kernel
theorem dX4_offsetJ_6 : decode cX4_offsetJ 6 = .ok (.ishl, 1) := by decide +kernel
theorem dX4_offsetJ_7 : decode cX4_offsetJ 7 = .ok (.iload_n 0, 1) := by decide +kernel
theorem dX4_offsetJ_8 : decode cX4_offsetJ 8 = .ok (.ldc 187, 2) := by decide +kernel
theorem dX4_offsetJ_10 : decode cX4_offsetJ 10 = .ok (.iand, 1) := by decide +kernel
theorem dX4_offsetJ_11 : decode cX4_offsetJ 11 = .ok (.ior, 1) := by decide +kernel
theorem dX4_offsetJ_12 : decode cX4_offsetJ 12 = .ok (.iload_n 0, 1) := by decide +kernel
theorem dX4_offsetJ_13 : decode cX4_offsetJ 13 = .ok (.bipush 20, 2) := by decide +kernel
theorem dX4_offsetJ_15 : decode cX4_offsetJ 15 = .ok (.iushr, 1) := by decide +kernel
theorem dX4_offsetJ_16 : decode cX4_offsetJ 16 = .ok (.iconst 1, 1) := by decide +kernel
theorem dX4_offsetJ_17 : decode cX4_offsetJ 17 = .ok (.iand, 1) := by decide +kernel
theorem dX4_offsetJ_18 : decode cX4_offsetJ 18 = .ok (.bipush 11, 2) := by decide +kernel
theorem dX4_offsetJ_20 : decode cX4_offsetJ 20 = .ok (.ishl, 1) := by decide +kernel
theorem dX4_offsetJ_21 : decode cX4_offsetJ 21 = .ok (.ior, 1) := by decide +kernel
theorem dX4_offsetJ_22 : decode cX4_offsetJ 22 = .ok (.iload_n 0, 1) := by decide +kernel
theorem dX4_offsetJ_23 : decode cX4_offsetJ 23 = .ok (.bipush 21, 2) := by decide +kernel
theorem dX4_offsetJ_25 : decode cX4_offsetJ 25 = .ok (.iushr, 1) := by decide +kernel
theorem dX4_offsetJ_26 : decode cX4_offsetJ 26 = .ok (.sipush 1023, 3) := by decide +kernel
theorem dX4_offsetJ_29 : decode cX4_offsetJ 29 = .ok (.iand, 1) := by decide +kernel
theorem dX4_offsetJ_30 : decode cX4_offsetJ 30 = .ok (.iconst 1, 1) := by decide +kernel
theorem dX4_offsetJ_31 : decode cX4_offsetJ 31 = .ok (.ishl, 1) := by decide +kernel
theorem dX4_offsetJ_32 : decode cX4_offsetJ 32 = .ok (.ior, 1) := by decide +kernel
theorem dX4_offsetJ_33 : decode cX4_offsetJ 33 = .ok (.ireturn, 1) := by decide +kernel
theorem dX4_a_0 : decode cX4_a 0 = .ok (.aload_n 0, 1) := by decide +kernel
theorem dX4_a_1 : decode cX4_a 1 = .ok (.getfield 49, 3) := by decide +kernel
theorem dX4_a_4 : decode cX4_a 4 = .ok (.iload_n 1, 1) := by decide +kernel
theorem dX4_a_5 : decode cX4_a 5 = .ok (.invokestatic 188, 3) := by decide +kernel
theorem dX4_a_8 : decode cX4_a 8 = .ok (.iaload, 1) := by decide +kernel
theorem dX4_a_9 : decode cX4_a 9 = .ok (.ireturn, 1) := by decide +kernel
theorem dX4_b_0 : decode cX4_b 0 = .ok (.aload_n 0, 1) := by decide +kernel
theorem dX4_b_1 : decode cX4_b 1 = .ok (.getfield 49, 3) := by decide +kernel
theorem dX4_b_4 : decode cX4_b 4 = .ok (.iload_n 1, 1) := by decide +kernel
theorem dX4_b_5 : decode cX4_b 5 = .ok (.bipush 20, 2) := by decide +kernel
theorem dX4_b_7 : decode cX4_b 7 = .ok (.iushr, 1) := by decide +kernel
theorem dX4_b_8 : decode cX4_b 8 = .ok (.bipush 31, 2) := by decide +kernel
theorem dX4_b_10 : decode cX4_b 10 = .ok (.iand, 1) := by decide +kernel
theorem dX4_b_11 : decode cX4_b 11 = .ok (.iaload, 1) := by decide +kernel
theorem dX4_b_12 : decode cX4_b 12 = .ok (.ireturn, 1) := by decide +kernel
theorem dX4_setD_0 : decode cX4_setD 0 = .ok (.iload_n 1, 1) := by decide +kernel
theorem dX4_setD_1 : decode cX4_setD 1 = .ok (.bipush 7, 2) := by decide +kernel
theorem dX4_setD_3 : decode cX4_setD 3 = .ok (.iushr, 1) := by decide +kernel
theorem dX4_setD_4 : decode cX4_setD 4 = .ok (.bipush 31, 2) := by decide +kernel
theorem dX4_setD_6 : decode cX4_setD 6 = .ok (.iand, 1) := by decide +kernel
theorem dX4_setD_7 : decode cX4_setD 7 = .ok (.istore_n 3, 1) := by decide +kernel
theorem dX4_setD_8 : decode cX4_setD 8 = .ok (.iload_n 3, 1) := by decide +kernel
theorem dX4_setD_9 : decode cX4_setD 9 = .ok (.ifCond .eq 10, 3) := by decide +kernel
theorem dX4_setD_12 : decode cX4_setD 12 = .ok (.aload_n 0, 1) := by decide +kernel
theorem dX4_setD_13 : decode cX4_setD 13 = .ok (.getfield 49, 3) := by decide +kernel
theorem dX4_setD_16 : decode cX4_setD 16 = .ok (.iload_n 3, 1) := by decide +kernel
theorem dX4_setD_17 : decode cX4_setD 17 = .ok (.iload_n 2, 1) := by decide +kernel
theorem dX4_setD_18 : decode cX4_setD 18 = .ok (.iastore, 1) := by decide +kernel
theorem dX4_setD_19 : decode cX4_setD 19 = .ok (.return_, 1) := by decide +kernel
theorem dX4_jump_0 : decode cX4_jump 0 = .ok (.iload_n 2, 1) := by decide +kernel
theorem dX4_jump_1 : decode cX4_jump 1 = .ok (.iconst 3, 1) := by decide +kernel
theorem dX4_jump_2 : decode cX4_jump 2 = .ok (.iand, 1) := by decide +kernel
theorem dX4_jump_3 : decode cX4_jump 3 = .ok (.ifCond .eq 10, 3) := by decide +kernel
theorem dX4_jump_6 : decode cX4_jump 6 = .ok (.aload_n 0, 1) := by decide +kernel
theorem dX4_jump_7 : decode cX4_jump 7 = .ok (.iconst 0, 1) := by decide +kernel
theorem dX4_jump_8 : decode cX4_jump 8 = .ok (.iload_n 2, 1) := by decide +kernel
theorem dX4_jump_9 : decode cX4_jump 9 = .ok (.invokevirtual 135, 3) := by decide +kernel
theorem dX4_jump_12 : decode cX4_jump 12 = .ok (.ireturn, 1) := by decide +kernel
theorem dX4_jump_13 : decode cX4_jump 13 = .ok (.aload_n 0, 1) := by decide +kernel
theorem dX4_jump_14 : decode cX4_jump 14 = .ok (.iload_n 1, 1) := by decide +kernel
theorem dX4_jump_15 : decode cX4_jump 15 = .ok (.aload_n 0, 1) := by decide +kernel
theorem dX4_jump_16 : decode cX4_jump 16 = .ok (.getfield 56, 3) := by decide +kernel
theorem dX4_jump_19 : decode cX4_jump 19 = .ok (.iconst 4, 1) := by decide +kernel
theorem dX4_jump_20 : decode cX4_jump 20 = .ok (.iadd, 1) := by decide +kernel
theorem dX4_jump_21 : decode cX4_jump 21 = .ok (.invokevirtual 183, 3) := by decide +kernel
theorem dX4_jump_24 : decode cX4_jump 24 = .ok (.aload_n 0, 1) := by decide +kernel
theorem dX4_jump_25 : decode cX4_jump 25 = .ok (.iload_n 2, 1) := by decide +kernel
theorem dX4_jump_26 : decode cX4_jump 26 = .ok (.invokevirtual 174, 3) := by decide +kernel
theorem dX4_jump_29 : decode cX4_jump 29 = .ok (.ireturn, 1) := by decide +kernel
theorem dX4_branch_0 : decode cX4_branch 0 = .ok (.iload_n 1, 1) := by decide +kernel
theorem dX4_branch_1 : decode cX4_branch 1 = .ok (.invokestatic 147, 3) := by decide +kernel
theorem dX4_branch_4 : decode cX4_branch 4 = .ok (.istore_n 2, 1) := by decide +kernel
theorem dX4_branch_5 : decode cX4_branch 5 = .ok (.iload_n 2, 1) := by decide +kernel
theorem dX4_branch_6 : decode cX4_branch 6 = .ok (.iconst 2, 1) := by decide +kernel
theorem dX4_branch_7 : decode cX4_branch 7 = .ok (.if_icmp .eq 8, 3) := by decide +kernel
theorem dX4_branch_10 : decode cX4_branch 10 = .ok (.iload_n 2, 1) := by decide +kernel
theorem dX4_branch_11 : decode cX4_branch 11 = .ok (.iconst 3, 1) := by decide +kernel
theorem dX4_branch_12 : decode cX4_branch 12 = .ok (.if_icmp .ne 9, 3) := by decide +kernel
theorem dX4_branch_15 : decode cX4_branch 15 = .ok (.aload_n 0, 1) := by decide +kernel
theorem dX4_branch_16 : decode cX4_branch 16 = .ok (.iload_n 1, 1) := by decide +kernel
theorem dX4_branch_17 : decode cX4_branch 17 = .ok (.invokevirtual 156, 3) := by decide +kernel
theorem dX4_branch_20 : decode cX4_branch 20 = .ok (.ireturn, 1) := by decide +kernel
theorem dX4_branch_21 : decode cX4_branch 21 = .ok (.iload_n 2, 1) := by decide +kernel
theorem dX4_branch_22 : decode cX4_branch 22 = .ok (.bipush 6, 2) := by decide +kernel
theorem dX4_branch_24 : decode cX4_branch 24 = .ok (.iand, 1) := by decide +kernel
theorem dX4_branch_25 : decode cX4_branch 25 = .ok (.aload_n 0, 1) := by decide +kernel
theorem dX4_branch_26 : decode cX4_branch 26 = .ok (.iload_n 1, 1) := by decide +kernel
theorem dX4_branch_27 : decode cX4_branch 27 = .ok (.invokevirtual 150, 3) := by decide +kernel
theorem dX4_branch_30 : decode cX4_branch 30 = .ok (.aload_n 0, 1) := by decide +kernel
theorem dX4_branch_31 : decode cX4_branch 31 = .ok (.iload_n 1, 1) := by decide +kernel
theorem dX4_branch_32 : decode cX4_branch 32 = .ok (.invokevirtual 191, 3) := by decide +kernel
theorem dX4_branch_35 : decode cX4_branch 35 = .ok (.invokestatic 194, 3) := by decide +kernel
theorem dX4_branch_38 : decode cX4_branch 38 = .ok (.iload_n 2, 1) := by decide +kernel
theorem dX4_branch_39 : decode cX4_branch 39 = .ok (.iconst 1, 1) := by decide +kernel
theorem dX4_branch_40 : decode cX4_branch 40 = .ok (.iand, 1) := by decide +kernel
theorem dX4_branch_41 : decode cX4_branch 41 = .ok (.iconst 1, 1) := by decide +kernel
theorem dX4_branch_42 : decode cX4_branch 42 = .ok (.if_icmp .ne 7, 3) := by decide +kernel
theorem dX4_branch_45 : decode cX4_branch 45 = .ok (.iconst 1, 1) := by decide +kernel
theorem dX4_branch_46 : decode cX4_branch 46 = .ok (.goto 4, 3) := by decide +kernel
theorem dX4_branch_49 : decode cX4_branch 49 = .ok (.iconst 0, 1) := by decide +kernel
theorem dX4_branch_50 : decode cX4_branch 50 = .ok (.if_icmp .eq 7, 3) := by decide +kernel
theorem dX4_branch_53 : decode cX4_branch 53 = .ok (.iconst 1, 1) := by decide +kernel
theorem dX4_branch_54 : decode cX4_branch 54 = .ok (.goto 4, 3) := by decide +kernel
theorem dX4_branch_57 : decode cX4_branch 57 = .ok (.iconst 0, 1) := by decide +kernel
theorem dX4_branch_58 : decode cX4_branch 58 = .ok (.istore_n 3, 1) := by decide +kernel
theorem dX4_branch_59 : decode cX4_branch 59 = .ok (.iload_n 3, 1) := by decide +kernel
theorem dX4_branch_60 : decode cX4_branch 60 = .ok (.ifCond .eq 15, 3) := by decide +kernel
theorem dX4_branch_63 : decode cX4_branch 63 = .ok (.aload_n 0, 1) := by decide +kernel
theorem dX4_branch_64 : decode cX4_branch 64 = .ok (.getfield 56, 3) := by decide +kernel
theorem dX4_branch_67 : decode cX4_branch 67 = .ok (.iload_n 1, 1) := by decide +kernel
theorem dX4_branch_68 : decode cX4_branch 68 = .ok (.invokestatic 198, 3) := by decide +kernel
theorem dX4_branch_71 : decode cX4_branch 71 = .ok (.iadd, 1) := by decide +kernel
theorem dX4_branch_72 : decode cX4_branch 72 = .ok (.goto 9, 3) := by decide +kernel
theorem dX4_branch_75 : decode cX4_branch 75 = .ok (.aload_n 0, 1) := by decide +kernel
theorem dX4_branch_76 : decode cX4_branch 76 = .ok (.getfield 56, 3) := by decide +kernel
theorem dX4_branch_79 : decode cX4_branch 79 = .ok (.iconst 4, 1) := by decide +kernel
theorem dX4_branch_80 : decode cX4_branch 80 = .ok (.iadd, 1) := by decide +kernel
theorem dX4_branch_81 : decode cX4_branch 81 = .ok (.istore 4, 2) := by decide +kernel
theorem dX4_branch_83 : decode cX4_branch 83 = .ok (.iload 4, 2) := by decide +kernel
theorem dX4_branch_85 : decode cX4_branch 85 = .ok (.iconst 3, 1) := by decide +kernel
theorem dX4_branch_86 : decode cX4_branch 86 = .ok (.iand, 1) := by decide +kernel
theorem dX4_branch_87 : decode cX4_branch 87 = .ok (.ifCond .eq 13, 3) := by decide +kernel
theorem dX4_branch_90 : decode cX4_branch 90 = .ok (.aload_n 0, 1) := by decide +kernel
theorem dX4_branch_91 : decode cX4_branch 91 = .ok (.iconst 0, 1) := by decide +kernel
theorem dX4_branch_92 : decode cX4_branch 92 = .ok (.iload 4, 2) := by decide +kernel
theorem dX4_branch_94 : decode cX4_branch 94 = .ok (.invokevirtual 135, 3) := by decide +kernel
theorem dX4_branch_97 : decode cX4_branch 97 = .ok (.goto 9, 3) := by decide +kernel
theorem dX4_branch_100 : decode cX4_branch 100 = .ok (.aload_n 0, 1) := by decide +kernel
theorem dX4_branch_101 : decode cX4_branch 101 = .ok (.iload 4, 2) := by decide +kernel
theorem dX4_branch_103 : decode cX4_branch 103 = .ok (.invokevirtual 174, 3) := by decide +kernel
theorem dX4_branch_106 : decode cX4_branch 106 = .ok (.ireturn, 1) := by decide +kernel
theorem dX4_compares_0 : decode cX4_compares 0 = .ok (.iload_n 0, 1) := by decide +kernel
theorem dX4_compares_1 : decode cX4_compares 1 = .ok (.lookupswitch 49 #[(0, 27), (4, 38)], 27) := by decide +kernel
theorem dX4_compares_28 : decode cX4_compares 28 = .ok (.iload_n 1, 1) := by decide +kernel
theorem dX4_compares_29 : decode cX4_compares 29 = .ok (.iload_n 2, 1) := by decide +kernel
theorem dX4_compares_30 : decode cX4_compares 30 = .ok (.if_icmp .ne 7, 3) := by decide +kernel
theorem dX4_compares_33 : decode cX4_compares 33 = .ok (.iconst 1, 1) := by decide +kernel
theorem dX4_compares_34 : decode cX4_compares 34 = .ok (.goto 4, 3) := by decide +kernel
theorem dX4_compares_37 : decode cX4_compares 37 = .ok (.iconst 0, 1) := by decide +kernel
theorem dX4_compares_38 : decode cX4_compares 38 = .ok (.ireturn, 1) := by decide +kernel
theorem dX4_compares_39 : decode cX4_compares 39 = .ok (.iload_n 1, 1) := by decide +kernel
theorem dX4_compares_40 : decode cX4_compares 40 = .ok (.iload_n 2, 1) := by decide +kernel
theorem dX4_compares_41 : decode cX4_compares 41 = .ok (.if_icmp .ge 7, 3) := by decide +kernel
theorem dX4_compares_44 : decode cX4_compares 44 = .ok (.iconst 1, 1) := by decide +kernel
theorem dX4_compares_45 : decode cX4_compares 45 = .ok (.goto 4, 3) := by decide +kernel
theorem dX4_compares_48 : decode cX4_compares 48 = .ok (.iconst 0, 1) := by decide +kernel
theorem dX4_compares_49 : decode cX4_compares 49 = .ok (.ireturn, 1) := by decide +kernel
theorem dX4_compares_50 : decode cX4_compares 50 = .ok (.iload_n 1, 1) := by decide +kernel
theorem dX4_compares_51 : decode cX4_compares 51 = .ok (.iload_n 2, 1) := by decide +kernel
theorem dX4_compares_52 : decode cX4_compares 52 = .ok (.invokestatic 201, 3) := by decide +kernel
theorem dX4_compares_55 : decode cX4_compares 55 = .ok (.ireturn, 1) := by decide +kernel
theorem dX4_belowUnsigned_0 : decode cX4_belowUnsigned 0 = .ok (.iload_n 0, 1) := by decide +kernel
theorem dX4_belowUnsigned_1 : decode cX4_belowUnsigned 1 = .ok (.iload_n 1, 1) := by decide +kernel
theorem dX4_belowUnsigned_2 : decode cX4_belowUnsigned 2 = .ok (.invokestatic 205, 3) := by decide +kernel
theorem dX4_belowUnsigned_5 : decode cX4_belowUnsigned 5 = .ok (.ifCond .ge 7, 3) := by decide +kernel
theorem dX4_belowUnsigned_8 : decode cX4_belowUnsigned 8 = .ok (.iconst 1, 1) := by decide +kernel
theorem dX4_belowUnsigned_9 : decode cX4_belowUnsigned 9 = .ok (.goto 4, 3) := by decide +kernel
theorem dX4_belowUnsigned_12 : decode cX4_belowUnsigned 12 = .ok (.iconst 0, 1) := by decide +kernel
theorem dX4_belowUnsigned_13 : decode cX4_belowUnsigned 13 = .ok (.ireturn, 1) := by decide +kernel
theorem dX4_read_0 : decode cX4_read 0 = .ok (.iload_n 1, 1) := by decide +kernel
theorem dX4_read_1 : decode cX4_read 1 = .ok (.invokestatic 147, 3) := by decide +kernel
theorem dX4_read_4 : decode cX4_read 4 = .ok (.istore_n 2, 1) := by decide +kernel
theorem dX4_read_5 : decode cX4_read 5 = .ok (.iload_n 2, 1) := by decide +kernel
theorem dX4_read_6 : decode cX4_read 6 = .ok (.iconst 3, 1) := by decide +kernel
theorem dX4_read_7 : decode cX4_read 7 = .ok (.if_icmp .eq 8, 3) := by decide +kernel
theorem dX4_read_10 : decode cX4_read 10 = .ok (.iload_n 2, 1) := by decide +kernel
theorem dX4_read_11 : decode cX4_read 11 = .ok (.iconst 5, 1) := by decide +kernel
theorem dX4_read_12 : decode cX4_read 12 = .ok (.if_icmp .le 9, 3) := by decide +kernel
theorem dX4_read_15 : decode cX4_read 15 = .ok (.aload_n 0, 1) := by decide +kernel
theorem dX4_read_16 : decode cX4_read 16 = .ok (.iload_n 1, 1) := by decide +kernel
theorem dX4_read_17 : decode cX4_read 17 = .ok (.invokevirtual 156, 3) := by decide +kernel
theorem dX4_read_20 : decode cX4_read 20 = .ok (.ireturn, 1) := by decide +kernel
theorem dX4_read_21 : decode cX4_read 21 = .ok (.iconst 1, 1) := by decide +kernel
theorem dX4_read_22 : decode cX4_read 22 = .ok (.iload_n 2, 1) := by decide +kernel
theorem dX4_read_23 : decode cX4_read 23 = .ok (.iconst 3, 1) := by decide +kernel
theorem dX4_read_24 : decode cX4_read 24 = .ok (.iand, 1) := by decide +kernel
theorem dX4_read_25 : decode cX4_read 25 = .ok (.ishl, 1) := by decide +kernel
theorem dX4_read_26 : decode cX4_read 26 = .ok (.istore_n 3, 1) := by decide +kernel
theorem dX4_read_27 : decode cX4_read 27 = .ok (.aload_n 0, 1) := by decide +kernel
theorem dX4_read_28 : decode cX4_read 28 = .ok (.iload_n 1, 1) := by decide +kernel
theorem dX4_read_29 : decode cX4_read 29 = .ok (.invokevirtual 150, 3) := by decide +kernel
theorem dX4_read_32 : decode cX4_read 32 = .ok (.iload_n 1, 1) := by decide +kernel
theorem dX4_read_33 : decode cX4_read 33 = .ok (.invokestatic 153, 3) := by decide +kernel
theorem dX4_read_36 : decode cX4_read 36 = .ok (.iadd, 1) := by decide +kernel
theorem dX4_read_37 : decode cX4_read 37 = .ok (.istore 4, 2) := by decide +kernel
theorem dX4_read_39 : decode cX4_read 39 = .ok (.iload 4, 2) := by decide +kernel
theorem dX4_read_41 : decode cX4_read 41 = .ok (.iload_n 3, 1) := by decide +kernel
theorem dX4_read_42 : decode cX4_read 42 = .ok (.iconst 1, 1) := by decide +kernel
theorem dX4_read_43 : decode cX4_read 43 = .ok (.isub, 1) := by decide +kernel
theorem dX4_read_44 : decode cX4_read 44 = .ok (.iand, 1) := by decide +kernel
theorem dX4_read_45 : decode cX4_read 45 = .ok (.ifCond .eq 11, 3) := by decide +kernel
theorem dX4_read_48 : decode cX4_read 48 = .ok (.aload_n 0, 1) := by decide +kernel
theorem dX4_read_49 : decode cX4_read 49 = .ok (.iconst 4, 1) := by decide +kernel
theorem dX4_read_50 : decode cX4_read 50 = .ok (.iload 4, 2) := by decide +kernel
theorem dX4_read_52 : decode cX4_read 52 = .ok (.invokevirtual 135, 3) := by decide +kernel
theorem dX4_read_55 : decode cX4_read 55 = .ok (.ireturn, 1) := by decide +kernel
theorem dX4_read_56 : decode cX4_read 56 = .ok (.aload_n 0, 1) := by decide +kernel
theorem dX4_read_57 : decode cX4_read 57 = .ok (.getfield 24, 3) := by decide +kernel
theorem dX4_read_60 : decode cX4_read 60 = .ok (.iload 4, 2) := by decide +kernel
theorem dX4_read_62 : decode cX4_read 62 = .ok (.invokevirtual 76, 3) := by decide +kernel
theorem dX4_read_65 : decode cX4_read 65 = .ok (.ifCond .eq 23, 3) := by decide +kernel
theorem dX4_read_68 : decode cX4_read 68 = .ok (.aload_n 0, 1) := by decide +kernel
theorem dX4_read_69 : decode cX4_read 69 = .ok (.iload_n 1, 1) := by decide +kernel
theorem dX4_read_70 : decode cX4_read 70 = .ok (.iload_n 2, 1) := by decide +kernel
theorem dX4_read_71 : decode cX4_read 71 = .ok (.aload_n 0, 1) := by decide +kernel
theorem dX4_read_72 : decode cX4_read 72 = .ok (.getfield 24, 3) := by decide +kernel
theorem dX4_read_75 : decode cX4_read 75 = .ok (.iload 4, 2) := by decide +kernel
theorem dX4_read_77 : decode cX4_read 77 = .ok (.iload_n 3, 1) := by decide +kernel
theorem dX4_read_78 : decode cX4_read 78 = .ok (.invokevirtual 84, 3) := by decide +kernel
theorem dX4_read_81 : decode cX4_read 81 = .ok (.invokestatic 210, 3) := by decide +kernel
theorem dX4_read_84 : decode cX4_read 84 = .ok (.invokevirtual 138, 3) := by decide +kernel
theorem dX4_read_87 : decode cX4_read 87 = .ok (.ireturn, 1) := by decide +kernel
theorem dX4_read_88 : decode cX4_read 88 = .ok (.iload_n 3, 1) := by decide +kernel
theorem dX4_read_89 : decode cX4_read 89 = .ok (.iconst 4, 1) := by decide +kernel
theorem dX4_read_90 : decode cX4_read 90 = .ok (.if_icmp .ne 26, 3) := by decide +kernel
theorem dX4_read_93 : decode cX4_read 93 = .ok (.iload 4, 2) := by decide +kernel
theorem dX4_read_95 : decode cX4_read 95 = .ok (.invokestatic 213, 3) := by decide +kernel
theorem dX4_read_98 : decode cX4_read 98 = .ok (.ifCond .eq 18, 3) := by decide +kernel
theorem dX4_read_101 : decode cX4_read 101 = .ok (.aload_n 0, 1) := by decide +kernel
theorem dX4_read_102 : decode cX4_read 102 = .ok (.iload_n 1, 1) := by decide +kernel
theorem dX4_read_103 : decode cX4_read 103 = .ok (.aload_n 0, 1) := by decide +kernel
theorem dX4_read_104 : decode cX4_read 104 = .ok (.getfield 31, 3) := by decide +kernel
theorem dX4_read_107 : decode cX4_read 107 = .ok (.iload 4, 2) := by decide +kernel
theorem dX4_read_109 : decode cX4_read 109 = .ok (.invokevirtual 214, 3) := by decide +kernel
theorem dX4_read_112 : decode cX4_read 112 = .ok (.invokevirtual 138, 3) := by decide +kernel
theorem dX4_read_115 : decode cX4_read 115 = .ok (.ireturn, 1) := by decide +kernel
theorem dX4_read_116 : decode cX4_read 116 = .ok (.iload_n 3, 1) := by decide +kernel
theorem dX4_read_117 : decode cX4_read 117 = .ok (.iconst 4, 1) := by decide +kernel
theorem dX4_read_118 : decode cX4_read 118 = .ok (.if_icmp .ne 23, 3) := by decide +kernel
theorem dX4_read_121 : decode cX4_read 121 = .ok (.iload 4, 2) := by decide +kernel
theorem dX4_read_123 : decode cX4_read 123 = .ok (.ldc 217, 2) := by decide +kernel
theorem dX4_read_125 : decode cX4_read 125 = .ok (.if_icmp .ne 16, 3) := by decide +kernel
theorem dX4_read_128 : decode cX4_read 128 = .ok (.aload_n 0, 1) := by decide +kernel
theorem dX4_read_129 : decode cX4_read 129 = .ok (.iload_n 1, 1) := by decide +kernel
theorem dX4_read_130 : decode cX4_read 130 = .ok (.aload_n 0, 1) := by decide +kernel
theorem dX4_read_131 : decode cX4_read 131 = .ok (.getfield 38, 3) := by decide +kernel
theorem dX4_read_134 : decode cX4_read 134 = .ok (.invokevirtual 218, 3) := by decide +kernel
theorem dX4_read_137 : decode cX4_read 137 = .ok (.invokevirtual 138, 3) := by decide +kernel
theorem dX4_read_140 : decode cX4_read 140 = .ok (.ireturn, 1) := by decide +kernel
theorem dX4_read_141 : decode cX4_read 141 = .ok (.aload_n 0, 1) := by decide +kernel
theorem dX4_read_142 : decode cX4_read 142 = .ok (.iconst 5, 1) := by decide +kernel
theorem dX4_read_143 : decode cX4_read 143 = .ok (.iload 4, 2) := by decide +kernel
theorem dX4_read_145 : decode cX4_read 145 = .ok (.invokevirtual 135, 3) := by decide +kernel
theorem dX4_read_148 : decode cX4_read 148 = .ok (.ireturn, 1) := by decide +kernel
theorem dX4_extended_0 : decode cX4_extended 0 = .ok (.iload_n 0, 1) := by decide +kernel
theorem dX4_extended_1 : decode cX4_extended 1 = .ok (.lookupswitch 33 #[(0, 27), (1, 30)], 27) := by decide +kernel
theorem dX4_extended_28 : decode cX4_extended 28 = .ok (.iload_n 1, 1) := by decide +kernel
theorem dX4_extended_29 : decode cX4_extended 29 = .ok (.i2b, 1) := by decide +kernel
theorem dX4_extended_30 : decode cX4_extended 30 = .ok (.ireturn, 1) := by decide +kernel
theorem dX4_extended_31 : decode cX4_extended 31 = .ok (.iload_n 1, 1) := by decide +kernel
theorem dX4_extended_32 : decode cX4_extended 32 = .ok (.i2s, 1) := by decide +kernel
theorem dX4_extended_33 : decode cX4_extended 33 = .ok (.ireturn, 1) := by decide +kernel
theorem dX4_extended_34 : decode cX4_extended 34 = .ok (.iload_n 1, 1) := by decide +kernel
theorem dX4_extended_35 : decode cX4_extended 35 = .ok (.ireturn, 1) := by decide +kernel
theorem dX4_store_0 : decode cX4_store 0 = .ok (.iload_n 1, 1) := by decide +kernel
theorem dX4_store_1 : decode cX4_store 1 = .ok (.invokestatic 147, 3) := by decide +kernel
theorem dX4_store_4 : decode cX4_store 4 = .ok (.istore_n 2, 1) := by decide +kernel
theorem dX4_store_5 : decode cX4_store 5 = .ok (.iload_n 2, 1) := by decide +kernel
theorem dX4_store_6 : decode cX4_store 6 = .ok (.iconst 2, 1) := by decide +kernel
theorem dX4_store_7 : decode cX4_store 7 = .ok (.if_icmp .le 9, 3) := by decide +kernel
theorem dX4_store_10 : decode cX4_store 10 = .ok (.aload_n 0, 1) := by decide +kernel
theorem dX4_store_11 : decode cX4_store 11 = .ok (.iload_n 1, 1) := by decide +kernel
theorem dX4_store_12 : decode cX4_store 12 = .ok (.invokevirtual 156, 3) := by decide +kernel
theorem dX4_store_15 : decode cX4_store 15 = .ok (.ireturn, 1) := by decide +kernel
theorem dX4_store_16 : decode cX4_store 16 = .ok (.iconst 1, 1) := by decide +kernel
theorem dX4_store_17 : decode cX4_store 17 = .ok (.iload_n 2, 1) := by decide +kernel
theorem dX4_store_18 : decode cX4_store 18 = .ok (.ishl, 1) := by decide +kernel
theorem dX4_store_19 : decode cX4_store 19 = .ok (.istore_n 3, 1) := by decide +kernel
theorem dX4_store_20 : decode cX4_store 20 = .ok (.aload_n 0, 1) := by decide +kernel
theorem dX4_store_21 : decode cX4_store 21 = .ok (.iload_n 1, 1) := by decide +kernel
theorem dX4_store_22 : decode cX4_store 22 = .ok (.invokevirtual 150, 3) := by decide +kernel
theorem dX4_store_25 : decode cX4_store 25 = .ok (.iload_n 1, 1) := by decide +kernel
theorem dX4_store_26 : decode cX4_store 26 = .ok (.invokestatic 221, 3) := by decide +kernel
theorem dX4_store_29 : decode cX4_store 29 = .ok (.iadd, 1) := by decide +kernel
theorem dX4_store_30 : decode cX4_store 30 = .ok (.istore 4, 2) := by decide +kernel
theorem dX4_store_32 : decode cX4_store 32 = .ok (.iload 4, 2) := by decide +kernel
theorem dX4_store_34 : decode cX4_store 34 = .ok (.iload_n 3, 1) := by decide +kernel
theorem dX4_store_35 : decode cX4_store 35 = .ok (.iconst 1, 1) := by decide +kernel
theorem dX4_store_36 : decode cX4_store 36 = .ok (.isub, 1) := by decide +kernel
theorem dX4_store_37 : decode cX4_store 37 = .ok (.iand, 1) := by decide +kernel
theorem dX4_store_38 : decode cX4_store 38 = .ok (.ifCond .eq 12, 3) := by decide +kernel
theorem dX4_store_41 : decode cX4_store 41 = .ok (.aload_n 0, 1) := by decide +kernel
theorem dX4_store_42 : decode cX4_store 42 = .ok (.bipush 6, 2) := by decide +kernel
theorem dX4_store_44 : decode cX4_store 44 = .ok (.iload 4, 2) := by decide +kernel
theorem dX4_store_46 : decode cX4_store 46 = .ok (.invokevirtual 135, 3) := by decide +kernel
theorem dX4_store_49 : decode cX4_store 49 = .ok (.ireturn, 1) := by decide +kernel
theorem dX4_store_50 : decode cX4_store 50 = .ok (.aload_n 0, 1) := by decide +kernel
theorem dX4_store_51 : decode cX4_store 51 = .ok (.getfield 24, 3) := by decide +kernel
theorem dX4_store_54 : decode cX4_store 54 = .ok (.iload 4, 2) := by decide +kernel
theorem dX4_store_56 : decode cX4_store 56 = .ok (.invokevirtual 76, 3) := by decide +kernel
theorem dX4_store_59 : decode cX4_store 59 = .ok (.ifCond .eq 21, 3) := by decide +kernel
theorem dX4_store_62 : decode cX4_store 62 = .ok (.aload_n 0, 1) := by decide +kernel
theorem dX4_store_63 : decode cX4_store 63 = .ok (.getfield 24, 3) := by decide +kernel
theorem dX4_store_66 : decode cX4_store 66 = .ok (.iload 4, 2) := by decide +kernel
theorem dX4_store_68 : decode cX4_store 68 = .ok (.iload_n 3, 1) := by decide +kernel
theorem dX4_store_69 : decode cX4_store 69 = .ok (.aload_n 0, 1) := by decide +kernel
theorem dX4_store_70 : decode cX4_store 70 = .ok (.iload_n 1, 1) := by decide +kernel
theorem dX4_store_71 : decode cX4_store 71 = .ok (.invokevirtual 191, 3) := by decide +kernel
theorem dX4_store_74 : decode cX4_store 74 = .ok (.invokevirtual 80, 3) := by decide +kernel
theorem dX4_store_77 : decode cX4_store 77 = .ok (.goto 66, 3) := by decide +kernel
theorem dX4_store_80 : decode cX4_store 80 = .ok (.iload_n 3, 1) := by decide +kernel
theorem dX4_store_81 : decode cX4_store 81 = .ok (.iconst 4, 1) := by decide +kernel
theorem dX4_store_82 : decode cX4_store 82 = .ok (.if_icmp .ne 28, 3) := by decide +kernel
theorem dX4_store_85 : decode cX4_store 85 = .ok (.iload 4, 2) := by decide +kernel
theorem dX4_store_87 : decode cX4_store 87 = .ok (.invokestatic 213, 3) := by decide +kernel
theorem dX4_store_90 : decode cX4_store 90 = .ok (.ifCond .eq 20, 3) := by decide +kernel
theorem dX4_store_93 : decode cX4_store 93 = .ok (.aload_n 0, 1) := by decide +kernel
theorem dX4_store_94 : decode cX4_store 94 = .ok (.getfield 31, 3) := by decide +kernel
theorem dX4_store_97 : decode cX4_store 97 = .ok (.iload 4, 2) := by decide +kernel
theorem dX4_store_99 : decode cX4_store 99 = .ok (.aload_n 0, 1) := by decide +kernel
theorem dX4_store_100 : decode cX4_store 100 = .ok (.iload_n 1, 1) := by decide +kernel
theorem dX4_store_101 : decode cX4_store 101 = .ok (.invokevirtual 191, 3) := by decide +kernel
theorem dX4_store_104 : decode cX4_store 104 = .ok (.invokevirtual 224, 3) := by decide +kernel
theorem dX4_store_107 : decode cX4_store 107 = .ok (.goto 36, 3) := by decide +kernel
theorem dX4_store_110 : decode cX4_store 110 = .ok (.iload 4, 2) := by decide +kernel
theorem dX4_store_112 : decode cX4_store 112 = .ok (.ldc 217, 2) := by decide +kernel
theorem dX4_store_114 : decode cX4_store 114 = .ok (.if_icmp .eq 12, 3) := by decide +kernel
theorem dX4_store_117 : decode cX4_store 117 = .ok (.aload_n 0, 1) := by decide +kernel
theorem dX4_store_118 : decode cX4_store 118 = .ok (.bipush 7, 2) := by decide +kernel
theorem dX4_store_120 : decode cX4_store 120 = .ok (.iload 4, 2) := by decide +kernel
theorem dX4_store_122 : decode cX4_store 122 = .ok (.invokevirtual 135, 3) := by decide +kernel
theorem dX4_store_125 : decode cX4_store 125 = .ok (.ireturn, 1) := by decide +kernel
theorem dX4_store_126 : decode cX4_store 126 = .ok (.aload_n 0, 1) := by decide +kernel
theorem dX4_store_127 : decode cX4_store 127 = .ok (.getfield 38, 3) := by decide +kernel
theorem dX4_store_130 : decode cX4_store 130 = .ok (.aload_n 0, 1) := by decide +kernel
theorem dX4_store_131 : decode cX4_store 131 = .ok (.iload_n 1, 1) := by decide +kernel
theorem dX4_store_132 : decode cX4_store 132 = .ok (.invokevirtual 191, 3) := by decide +kernel
theorem dX4_store_135 : decode cX4_store 135 = .ok (.invokevirtual 227, 3) := by decide +kernel
theorem dX4_store_138 : decode cX4_store 138 = .ok (.ifCond .ne 5, 3) := by decide +kernel
theorem dX4_store_141 : decode cX4_store 141 = .ok (.iconst 4, 1) := by decide +kernel
theorem dX4_store_142 : decode cX4_store 142 = .ok (.ireturn, 1) := by decide +kernel
theorem dX4_store_143 : decode cX4_store 143 = .ok (.aload_n 0, 1) := by decide +kernel
theorem dX4_store_144 : decode cX4_store 144 = .ok (.aload_n 0, 1) := by decide +kernel
theorem dX4_store_145 : decode cX4_store 145 = .ok (.getfield 56, 3) := by decide +kernel
theorem dX4_store_148 : decode cX4_store 148 = .ok (.iconst 4, 1) := by decide +kernel
theorem dX4_store_149 : decode cX4_store 149 = .ok (.iadd, 1) := by decide +kernel
theorem dX4_store_150 : decode cX4_store 150 = .ok (.invokevirtual 174, 3) := by decide +kernel
theorem dX4_store_153 : decode cX4_store 153 = .ok (.ireturn, 1) := by decide +kernel
theorem dX4_reckonWithNumber_0 : decode cX4_reckonWithNumber 0 = .ok (.iload_n 1, 1) := by decide +kernel
theorem dX4_reckonWithNumber_1 : decode cX4_reckonWithNumber 1 = .ok (.invokestatic 147, 3) := by decide +kernel
theorem dX4_reckonWithNumber_4 : decode cX4_reckonWithNumber 4 = .ok (.istore_n 2, 1) := by decide +kernel
theorem dX4_reckonWithNumber_5 : decode cX4_reckonWithNumber 5 = .ok (.iload_n 1, 1) := by decide +kernel
theorem dX4_reckonWithNumber_6 : decode cX4_reckonWithNumber 6 = .ok (.invokestatic 230, 3) := by decide +kernel
theorem dX4_reckonWithNumber_9 : decode cX4_reckonWithNumber 9 = .ok (.istore_n 3, 1) := by decide +kernel
theorem dX4_reckonWithNumber_10 : decode cX4_reckonWithNumber 10 = .ok (.iload_n 2, 1) := by decide +kernel
theorem dX4_reckonWithNumber_11 : decode cX4_reckonWithNumber 11 = .ok (.iconst 1, 1) := by decide +kernel
theorem dX4_reckonWithNumber_12 : decode cX4_reckonWithNumber 12 = .ok (.if_icmp .ne 15, 3) := by decide +kernel
theorem dX4_reckonWithNumber_15 : decode cX4_reckonWithNumber 15 = .ok (.iload_n 3, 1) := by decide +kernel
theorem dX4_reckonWithNumber_16 : decode cX4_reckonWithNumber 16 = .ok (.ifCond .ne 7, 3) := by decide +kernel
theorem dX4_reckonWithNumber_19 : decode cX4_reckonWithNumber 19 = .ok (.iconst 1, 1) := by decide +kernel
theorem dX4_reckonWithNumber_20 : decode cX4_reckonWithNumber 20 = .ok (.goto 27, 3) := by decide +kernel
theorem dX4_reckonWithNumber_23 : decode cX4_reckonWithNumber 23 = .ok (.iconst 0, 1) := by decide +kernel
theorem dX4_reckonWithNumber_24 : decode cX4_reckonWithNumber 24 = .ok (.goto 23, 3) := by decide +kernel
theorem dX4_reckonWithNumber_27 : decode cX4_reckonWithNumber 27 = .ok (.iload_n 2, 1) := by decide +kernel
theorem dX4_reckonWithNumber_28 : decode cX4_reckonWithNumber 28 = .ok (.iconst 5, 1) := by decide +kernel
theorem dX4_reckonWithNumber_29 : decode cX4_reckonWithNumber 29 = .ok (.if_icmp .ne 13, 3) := by decide +kernel
theorem dX4_reckonWithNumber_32 : decode cX4_reckonWithNumber 32 = .ok (.iload_n 3, 1) := by decide +kernel
theorem dX4_reckonWithNumber_33 : decode cX4_reckonWithNumber 33 = .ok (.ifCond .eq 9, 3) := by decide +kernel
theorem dX4_reckonWithNumber_36 : decode cX4_reckonWithNumber 36 = .ok (.iload_n 3, 1) := by decide +kernel
theorem dX4_reckonWithNumber_37 : decode cX4_reckonWithNumber 37 = .ok (.bipush 32, 2) := by decide +kernel
theorem dX4_reckonWithNumber_39 : decode cX4_reckonWithNumber 39 = .ok (.if_icmp .ne 7, 3) := by decide +kernel
theorem dX4_reckonWithNumber_42 : decode cX4_reckonWithNumber 42 = .ok (.iconst 1, 1) := by decide +kernel
theorem dX4_reckonWithNumber_43 : decode cX4_reckonWithNumber 43 = .ok (.goto 4, 3) := by decide +kernel
theorem dX4_reckonWithNumber_46 : decode cX4_reckonWithNumber 46 = .ok (.iconst 0, 1) := by decide +kernel
theorem dX4_reckonWithNumber_47 : decode cX4_reckonWithNumber 47 = .ok (.istore 4, 2) := by decide +kernel
theorem dX4_reckonWithNumber_49 : decode cX4_reckonWithNumber 49 = .ok (.iload 4, 2) := by decide +kernel
theorem dX4_reckonWithNumber_51 : decode cX4_reckonWithNumber 51 = .ok (.ifCond .ne 9, 3) := by decide +kernel
theorem dX4_reckonWithNumber_54 : decode cX4_reckonWithNumber 54 = .ok (.aload_n 0, 1) := by decide +kernel
theorem dX4_reckonWithNumber_55 : decode cX4_reckonWithNumber 55 = .ok (.iload_n 1, 1) := by decide +kernel
theorem dX4_reckonWithNumber_56 : decode cX4_reckonWithNumber 56 = .ok (.invokevirtual 156, 3) := by decide +kernel
theorem dX4_reckonWithNumber_59 : decode cX4_reckonWithNumber 59 = .ok (.ireturn, 1) := by decide +kernel
theorem dX4_reckonWithNumber_60 : decode cX4_reckonWithNumber 60 = .ok (.aload_n 0, 1) := by decide +kernel
theorem dX4_reckonWithNumber_61 : decode cX4_reckonWithNumber 61 = .ok (.iload_n 1, 1) := by decide +kernel
theorem dX4_reckonWithNumber_62 : decode cX4_reckonWithNumber 62 = .ok (.iload_n 2, 1) := by decide +kernel
theorem dX4_reckonWithNumber_63 : decode cX4_reckonWithNumber 63 = .ok (.iload_n 2, 1) := by decide +kernel
theorem dX4_reckonWithNumber_64 : decode cX4_reckonWithNumber 64 = .ok (.iconst 5, 1) := by decide +kernel
theorem dX4_reckonWithNumber_65 : decode cX4_reckonWithNumber 65 = .ok (.if_icmp .ne 13, 3) := by decide +kernel
theorem dX4_reckonWithNumber_68 : decode cX4_reckonWithNumber 68 = .ok (.iload_n 3, 1) := by decide +kernel
theorem dX4_reckonWithNumber_69 : decode cX4_reckonWithNumber 69 = .ok (.bipush 32, 2) := by decide +kernel
theorem dX4_reckonWithNumber_71 : decode cX4_reckonWithNumber 71 = .ok (.if_icmp .ne 7, 3) := by decide +kernel
theorem dX4_reckonWithNumber_74 : decode cX4_reckonWithNumber 74 = .ok (.iconst 1, 1) := by decide +kernel
theorem dX4_reckonWithNumber_75 : decode cX4_reckonWithNumber 75 = .ok (.goto 4, 3) := by decide +kernel
theorem dX4_reckonWithNumber_78 : decode cX4_reckonWithNumber 78 = .ok (.iconst 0, 1) := by decide +kernel
theorem dX4_reckonWithNumber_79 : decode cX4_reckonWithNumber 79 = .ok (.aload_n 0, 1) := by decide +kernel
theorem dX4_reckonWithNumber_80 : decode cX4_reckonWithNumber 80 = .ok (.iload_n 1, 1) := by decide +kernel
theorem dX4_reckonWithNumber_81 : decode cX4_reckonWithNumber 81 = .ok (.invokevirtual 150, 3) := by decide +kernel
theorem dX4_reckonWithNumber_84 : decode cX4_reckonWithNumber 84 = .ok (.iload_n 1, 1) := by decide +kernel
theorem dX4_reckonWithNumber_85 : decode cX4_reckonWithNumber 85 = .ok (.invokestatic 153, 3) := by decide +kernel
theorem dX4_reckonWithNumber_88 : decode cX4_reckonWithNumber 88 = .ok (.invokestatic 233, 3) := by decide +kernel
theorem dX4_reckonWithNumber_91 : decode cX4_reckonWithNumber 91 = .ok (.invokevirtual 138, 3) := by decide +kernel
theorem dX4_reckonWithNumber_94 : decode cX4_reckonWithNumber 94 = .ok (.ireturn, 1) := by decide +kernel
theorem dX4_reckonWithRegister_0 : decode cX4_reckonWithRegister 0 = .ok (.iload_n 1, 1) := by decide +kernel
theorem dX4_reckonWithRegister_1 : decode cX4_reckonWithRegister 1 = .ok (.invokestatic 147, 3) := by decide +kernel
theorem dX4_reckonWithRegister_4 : decode cX4_reckonWithRegister 4 = .ok (.istore_n 2, 1) := by decide +kernel
theorem dX4_reckonWithRegister_5 : decode cX4_reckonWithRegister 5 = .ok (.iload_n 1, 1) := by decide +kernel
theorem dX4_reckonWithRegister_6 : decode cX4_reckonWithRegister 6 = .ok (.invokestatic 230, 3) := by decide +kernel
theorem dX4_reckonWithRegister_9 : decode cX4_reckonWithRegister 9 = .ok (.istore_n 3, 1) := by decide +kernel
theorem dX4_reckonWithRegister_10 : decode cX4_reckonWithRegister 10 = .ok (.aload_n 0, 1) := by decide +kernel
theorem dX4_reckonWithRegister_11 : decode cX4_reckonWithRegister 11 = .ok (.iload_n 1, 1) := by decide +kernel
theorem dX4_reckonWithRegister_12 : decode cX4_reckonWithRegister 12 = .ok (.invokevirtual 150, 3) := by decide +kernel
theorem dX4_reckonWithRegister_15 : decode cX4_reckonWithRegister 15 = .ok (.istore 4, 2) := by decide +kernel
theorem dX4_reckonWithRegister_17 : decode cX4_reckonWithRegister 17 = .ok (.aload_n 0, 1) := by decide +kernel
theorem dX4_reckonWithRegister_18 : decode cX4_reckonWithRegister 18 = .ok (.iload_n 1, 1) := by decide +kernel
theorem dX4_reckonWithRegister_19 : decode cX4_reckonWithRegister 19 = .ok (.invokevirtual 191, 3) := by decide +kernel
theorem dX4_reckonWithRegister_22 : decode cX4_reckonWithRegister 22 = .ok (.istore 5, 2) := by decide +kernel
theorem dX4_reckonWithRegister_24 : decode cX4_reckonWithRegister 24 = .ok (.iload_n 3, 1) := by decide +kernel
theorem dX4_reckonWithRegister_25 : decode cX4_reckonWithRegister 25 = .ok (.iconst 1, 1) := by decide +kernel
theorem dX4_reckonWithRegister_26 : decode cX4_reckonWithRegister 26 = .ok (.if_icmp .ne 33, 3) := by decide +kernel
theorem dX4_reckonWithRegister_29 : decode cX4_reckonWithRegister 29 = .ok (.aload_n 0, 1) := by decide +kernel
theorem dX4_reckonWithRegister_30 : decode cX4_reckonWithRegister 30 = .ok (.iload_n 1, 1) := by decide +kernel
theorem dX4_reckonWithRegister_31 : decode cX4_reckonWithRegister 31 = .ok (.iload_n 2, 1) := by decide +kernel
theorem dX4_reckonWithRegister_32 : decode cX4_reckonWithRegister 32 = .ok (.iconst 4, 1) := by decide +kernel
theorem dX4_reckonWithRegister_33 : decode cX4_reckonWithRegister 33 = .ok (.if_icmp .ge 14, 3) := by decide +kernel
theorem dX4_reckonWithRegister_36 : decode cX4_reckonWithRegister 36 = .ok (.iload_n 2, 1) := by decide +kernel
theorem dX4_reckonWithRegister_37 : decode cX4_reckonWithRegister 37 = .ok (.iload 4, 2) := by decide +kernel
theorem dX4_reckonWithRegister_39 : decode cX4_reckonWithRegister 39 = .ok (.iload 5, 2) := by decide +kernel
theorem dX4_reckonWithRegister_41 : decode cX4_reckonWithRegister 41 = .ok (.invokestatic 237, 3) := by decide +kernel
theorem dX4_reckonWithRegister_44 : decode cX4_reckonWithRegister 44 = .ok (.goto 11, 3) := by decide +kernel
theorem dX4_reckonWithRegister_47 : decode cX4_reckonWithRegister 47 = .ok (.iload_n 2, 1) := by decide +kernel
theorem dX4_reckonWithRegister_48 : decode cX4_reckonWithRegister 48 = .ok (.iload 4, 2) := by decide +kernel
theorem dX4_reckonWithRegister_50 : decode cX4_reckonWithRegister 50 = .ok (.iload 5, 2) := by decide +kernel
theorem dX4_reckonWithRegister_52 : decode cX4_reckonWithRegister 52 = .ok (.invokestatic 240, 3) := by decide +kernel
theorem dX4_reckonWithRegister_55 : decode cX4_reckonWithRegister 55 = .ok (.invokevirtual 138, 3) := by decide +kernel
theorem dX4_reckonWithRegister_58 : decode cX4_reckonWithRegister 58 = .ok (.ireturn, 1) := by decide +kernel
theorem dX4_reckonWithRegister_59 : decode cX4_reckonWithRegister 59 = .ok (.iload_n 3, 1) := by decide +kernel
theorem dX4_reckonWithRegister_60 : decode cX4_reckonWithRegister 60 = .ok (.ifCond .eq 24, 3) := by decide +kernel
theorem dX4_reckonWithRegister_63 : decode cX4_reckonWithRegister 63 = .ok (.iload_n 3, 1) := by decide +kernel
theorem dX4_reckonWithRegister_64 : decode cX4_reckonWithRegister 64 = .ok (.bipush 32, 2) := by decide +kernel
theorem dX4_reckonWithRegister_66 : decode cX4_reckonWithRegister 66 = .ok (.if_icmp .ne 12, 3) := by decide +kernel
theorem dX4_reckonWithRegister_69 : decode cX4_reckonWithRegister 69 = .ok (.iload_n 2, 1) := by decide +kernel
theorem dX4_reckonWithRegister_70 : decode cX4_reckonWithRegister 70 = .ok (.ifCond .eq 14, 3) := by decide +kernel
theorem dX4_reckonWithRegister_73 : decode cX4_reckonWithRegister 73 = .ok (.iload_n 2, 1) := by decide +kernel
theorem dX4_reckonWithRegister_74 : decode cX4_reckonWithRegister 74 = .ok (.iconst 5, 1) := by decide +kernel
theorem dX4_reckonWithRegister_75 : decode cX4_reckonWithRegister 75 = .ok (.if_icmp .eq 9, 3) := by decide +kernel
theorem dX4_reckonWithRegister_78 : decode cX4_reckonWithRegister 78 = .ok (.aload_n 0, 1) := by decide +kernel
theorem dX4_reckonWithRegister_79 : decode cX4_reckonWithRegister 79 = .ok (.iload_n 1, 1) := by decide +kernel
theorem dX4_reckonWithRegister_80 : decode cX4_reckonWithRegister 80 = .ok (.invokevirtual 156, 3) := by decide +kernel
theorem dX4_reckonWithRegister_83 : decode cX4_reckonWithRegister 83 = .ok (.ireturn, 1) := by decide +kernel
theorem dX4_reckonWithRegister_84 : decode cX4_reckonWithRegister 84 = .ok (.aload_n 0, 1) := by decide +kernel
theorem dX4_reckonWithRegister_85 : decode cX4_reckonWithRegister 85 = .ok (.iload_n 1, 1) := by decide +kernel
theorem dX4_reckonWithRegister_86 : decode cX4_reckonWithRegister 86 = .ok (.iload_n 2, 1) := by decide +kernel
theorem dX4_reckonWithRegister_87 : decode cX4_reckonWithRegister 87 = .ok (.iload_n 3, 1) := by decide +kernel
theorem dX4_reckonWithRegister_88 : decode cX4_reckonWithRegister 88 = .ok (.bipush 32, 2) := by decide +kernel
theorem dX4_reckonWithRegister_90 : decode cX4_reckonWithRegister 90 = .ok (.if_icmp .ne 7, 3) := by decide +kernel
theorem dX4_reckonWithRegister_93 : decode cX4_reckonWithRegister 93 = .ok (.iconst 1, 1) := by decide +kernel
theorem dX4_reckonWithRegister_94 : decode cX4_reckonWithRegister 94 = .ok (.goto 4, 3) := by decide +kernel
theorem dX4_reckonWithRegister_97 : decode cX4_reckonWithRegister 97 = .ok (.iconst 0, 1) := by decide +kernel
theorem dX4_reckonWithRegister_98 : decode cX4_reckonWithRegister 98 = .ok (.iload 4, 2) := by decide +kernel
theorem dX4_reckonWithRegister_100 : decode cX4_reckonWithRegister 100 = .ok (.iload 5, 2) := by decide +kernel
theorem dX4_reckonWithRegister_102 : decode cX4_reckonWithRegister 102 = .ok (.invokestatic 233, 3) := by decide +kernel
theorem dX4_reckonWithRegister_105 : decode cX4_reckonWithRegister 105 = .ok (.invokevirtual 138, 3) := by decide +kernel
theorem dX4_reckonWithRegister_108 : decode cX4_reckonWithRegister 108 = .ok (.ireturn, 1) := by decide +kernel
theorem dX4_reckoned_0 : decode cX4_reckoned 0 = .ok (.iload_n 0, 1) := by decide +kernel
theorem dX4_reckoned_1 : decode cX4_reckoned 1 = .ok (.tableswitch 117 0 6 #[43, 57, 64, 75, 89, 93, 113], 43) := by decide +kernel
theorem dX4_reckoned_44 : decode cX4_reckoned 44 = .ok (.iload_n 1, 1) := by decide +kernel
theorem dX4_reckoned_45 : decode cX4_reckoned 45 = .ok (.ifCond .eq 9, 3) := by decide +kernel
theorem dX4_reckoned_48 : decode cX4_reckoned 48 = .ok (.iload_n 2, 1) := by decide +kernel
theorem dX4_reckoned_49 : decode cX4_reckoned 49 = .ok (.iload_n 3, 1) := by decide +kernel
theorem dX4_reckoned_50 : decode cX4_reckoned 50 = .ok (.isub, 1) := by decide +kernel
theorem dX4_reckoned_51 : decode cX4_reckoned 51 = .ok (.goto 6, 3) := by decide +kernel
theorem dX4_reckoned_54 : decode cX4_reckoned 54 = .ok (.iload_n 2, 1) := by decide +kernel
theorem dX4_reckoned_55 : decode cX4_reckoned 55 = .ok (.iload_n 3, 1) := by decide +kernel
theorem dX4_reckoned_56 : decode cX4_reckoned 56 = .ok (.iadd, 1) := by decide +kernel
theorem dX4_reckoned_57 : decode cX4_reckoned 57 = .ok (.ireturn, 1) := by decide +kernel
theorem dX4_reckoned_58 : decode cX4_reckoned 58 = .ok (.iload_n 2, 1) := by decide +kernel
theorem dX4_reckoned_59 : decode cX4_reckoned 59 = .ok (.iload_n 3, 1) := by decide +kernel
theorem dX4_reckoned_60 : decode cX4_reckoned 60 = .ok (.bipush 31, 2) := by decide +kernel
theorem dX4_reckoned_62 : decode cX4_reckoned 62 = .ok (.iand, 1) := by decide +kernel
theorem dX4_reckoned_63 : decode cX4_reckoned 63 = .ok (.ishl, 1) := by decide +kernel
theorem dX4_reckoned_64 : decode cX4_reckoned 64 = .ok (.ireturn, 1) := by decide +kernel
theorem dX4_reckoned_65 : decode cX4_reckoned 65 = .ok (.iload_n 2, 1) := by decide +kernel
theorem dX4_reckoned_66 : decode cX4_reckoned 66 = .ok (.iload_n 3, 1) := by decide +kernel
theorem dX4_reckoned_67 : decode cX4_reckoned 67 = .ok (.if_icmp .ge 7, 3) := by decide +kernel
theorem dX4_reckoned_70 : decode cX4_reckoned 70 = .ok (.iconst 1, 1) := by decide +kernel
theorem dX4_reckoned_71 : decode cX4_reckoned 71 = .ok (.goto 4, 3) := by decide +kernel
theorem dX4_reckoned_74 : decode cX4_reckoned 74 = .ok (.iconst 0, 1) := by decide +kernel
theorem dX4_reckoned_75 : decode cX4_reckoned 75 = .ok (.ireturn, 1) := by decide +kernel
theorem dX4_reckoned_76 : decode cX4_reckoned 76 = .ok (.iload_n 2, 1) := by decide +kernel
theorem dX4_reckoned_77 : decode cX4_reckoned 77 = .ok (.iload_n 3, 1) := by decide +kernel
theorem dX4_reckoned_78 : decode cX4_reckoned 78 = .ok (.invokestatic 201, 3) := by decide +kernel
theorem dX4_reckoned_81 : decode cX4_reckoned 81 = .ok (.ifCond .eq 7, 3) := by decide +kernel
theorem dX4_reckoned_84 : decode cX4_reckoned 84 = .ok (.iconst 1, 1) := by decide +kernel
theorem dX4_reckoned_85 : decode cX4_reckoned 85 = .ok (.goto 4, 3) := by decide +kernel
theorem dX4_reckoned_88 : decode cX4_reckoned 88 = .ok (.iconst 0, 1) := by decide +kernel
theorem dX4_reckoned_89 : decode cX4_reckoned 89 = .ok (.ireturn, 1) := by decide +kernel
theorem dX4_reckoned_90 : decode cX4_reckoned 90 = .ok (.iload_n 2, 1) := by decide +kernel
theorem dX4_reckoned_91 : decode cX4_reckoned 91 = .ok (.iload_n 3, 1) := by decide +kernel
theorem dX4_reckoned_92 : decode cX4_reckoned 92 = .ok (.ixor, 1) := by decide +kernel
theorem dX4_reckoned_93 : decode cX4_reckoned 93 = .ok (.ireturn, 1) := by decide +kernel
theorem dX4_reckoned_94 : decode cX4_reckoned 94 = .ok (.iload_n 1, 1) := by decide +kernel
theorem dX4_reckoned_95 : decode cX4_reckoned 95 = .ok (.ifCond .eq 12, 3) := by decide +kernel
theorem dX4_reckoned_98 : decode cX4_reckoned 98 = .ok (.iload_n 2, 1) := by decide +kernel
theorem dX4_reckoned_99 : decode cX4_reckoned 99 = .ok (.iload_n 3, 1) := by decide +kernel
theorem dX4_reckoned_100 : decode cX4_reckoned 100 = .ok (.bipush 31, 2) := by decide +kernel
theorem dX4_reckoned_102 : decode cX4_reckoned 102 = .ok (.iand, 1) := by decide +kernel
theorem dX4_reckoned_103 : decode cX4_reckoned 103 = .ok (.ishr, 1) := by decide +kernel
theorem dX4_reckoned_104 : decode cX4_reckoned 104 = .ok (.goto 9, 3) := by decide +kernel
theorem dX4_reckoned_107 : decode cX4_reckoned 107 = .ok (.iload_n 2, 1) := by decide +kernel
theorem dX4_reckoned_108 : decode cX4_reckoned 108 = .ok (.iload_n 3, 1) := by decide +kernel
theorem dX4_reckoned_109 : decode cX4_reckoned 109 = .ok (.bipush 31, 2) := by decide +kernel
theorem dX4_reckoned_111 : decode cX4_reckoned 111 = .ok (.iand, 1) := by decide +kernel
theorem dX4_reckoned_112 : decode cX4_reckoned 112 = .ok (.iushr, 1) := by decide +kernel
theorem dX4_reckoned_113 : decode cX4_reckoned 113 = .ok (.ireturn, 1) := by decide +kernel
theorem dX4_reckoned_114 : decode cX4_reckoned 114 = .ok (.iload_n 2, 1) := by decide +kernel
theorem dX4_reckoned_115 : decode cX4_reckoned 115 = .ok (.iload_n 3, 1) := by decide +kernel
theorem dX4_reckoned_116 : decode cX4_reckoned 116 = .ok (.ior, 1) := by decide +kernel
theorem dX4_reckoned_117 : decode cX4_reckoned 117 = .ok (.ireturn, 1) := by decide +kernel
theorem dX4_reckoned_118 : decode cX4_reckoned 118 = .ok (.iload_n 2, 1) := by decide +kernel
theorem dX4_reckoned_119 : decode cX4_reckoned 119 = .ok (.iload_n 3, 1) := by decide +kernel
theorem dX4_reckoned_120 : decode cX4_reckoned 120 = .ok (.iand, 1) := by decide +kernel
theorem dX4_reckoned_121 : decode cX4_reckoned 121 = .ok (.ireturn, 1) := by decide +kernel
theorem dX4_unsigned_0 : decode cX4_unsigned 0 = .ok (.iload_n 0, 1) := by decide +kernel
theorem dX4_unsigned_1 : decode cX4_unsigned 1 = .ok (.i2l, 1) := by decide +kernel
theorem dX4_unsigned_2 : decode cX4_unsigned 2 = .ok (.ldc2_w 243, 3) := by decide +kernel
theorem dX4_unsigned_5 : decode cX4_unsigned 5 = .ok (.land, 1) := by decide +kernel
theorem dX4_unsigned_6 : decode cX4_unsigned 6 = .ok (.lreturn, 1) := by decide +kernel
theorem dX4_product_0 : decode cX4_product 0 = .ok (.iload_n 0, 1) := by decide +kernel
theorem dX4_product_1 : decode cX4_product 1 = .ok (.tableswitch 53 0 2 #[27, 31, 41], 27) := by decide +kernel
theorem dX4_product_28 : decode cX4_product 28 = .ok (.iload_n 1, 1) := by decide +kernel
theorem dX4_product_29 : decode cX4_product 29 = .ok (.iload_n 2, 1) := by decide +kernel
theorem dX4_product_30 : decode cX4_product 30 = .ok (.imul, 1) := by decide +kernel
theorem dX4_product_31 : decode cX4_product 31 = .ok (.ireturn, 1) := by decide +kernel
theorem dX4_product_32 : decode cX4_product 32 = .ok (.iload_n 1, 1) := by decide +kernel
theorem dX4_product_33 : decode cX4_product 33 = .ok (.i2l, 1) := by decide +kernel
theorem dX4_product_34 : decode cX4_product 34 = .ok (.iload_n 2, 1) := by decide +kernel
theorem dX4_product_35 : decode cX4_product 35 = .ok (.i2l, 1) := by decide +kernel
theorem dX4_product_36 : decode cX4_product 36 = .ok (.lmul, 1) := by decide +kernel
theorem dX4_product_37 : decode cX4_product 37 = .ok (.bipush 32, 2) := by decide +kernel
theorem dX4_product_39 : decode cX4_product 39 = .ok (.lshr, 1) := by decide +kernel
theorem dX4_product_40 : decode cX4_product 40 = .ok (.l2i, 1) := by decide +kernel
theorem dX4_product_41 : decode cX4_product 41 = .ok (.ireturn, 1) := by decide +kernel
theorem dX4_product_42 : decode cX4_product 42 = .ok (.iload_n 1, 1) := by decide +kernel
theorem dX4_product_43 : decode cX4_product 43 = .ok (.i2l, 1) := by decide +kernel
theorem dX4_product_44 : decode cX4_product 44 = .ok (.iload_n 2, 1) := by decide +kernel
theorem dX4_product_45 : decode cX4_product 45 = .ok (.invokestatic 245, 3) := by decide +kernel
theorem dX4_product_48 : decode cX4_product 48 = .ok (.lmul, 1) := by decide +kernel
theorem dX4_product_49 : decode cX4_product 49 = .ok (.bipush 32, 2) := by decide +kernel
theorem dX4_product_51 : decode cX4_product 51 = .ok (.lshr, 1) := by decide +kernel
theorem dX4_product_52 : decode cX4_product 52 = .ok (.l2i, 1) := by decide +kernel
theorem dX4_product_53 : decode cX4_product 53 = .ok (.ireturn, 1) := by decide +kernel
theorem dX4_product_54 : decode cX4_product 54 = .ok (.iload_n 1, 1) := by decide +kernel
theorem dX4_product_55 : decode cX4_product 55 = .ok (.invokestatic 245, 3) := by decide +kernel
theorem dX4_product_58 : decode cX4_product 58 = .ok (.iload_n 2, 1) := by decide +kernel
theorem dX4_product_59 : decode cX4_product 59 = .ok (.invokestatic 245, 3) := by decide +kernel
theorem dX4_product_62 : decode cX4_product 62 = .ok (.lmul, 1) := by decide +kernel
theorem dX4_product_63 : decode cX4_product 63 = .ok (.bipush 32, 2) := by decide +kernel
theorem dX4_product_65 : decode cX4_product 65 = .ok (.lshr, 1) := by decide +kernel
theorem dX4_product_66 : decode cX4_product 66 = .ok (.l2i, 1) := by decide +kernel
theorem dX4_product_67 : decode cX4_product 67 = .ok (.ireturn, 1) := by decide +kernel
theorem dX4_divided_0 : decode cX4_divided 0 = .ok (.iload_n 0, 1) := by decide +kernel
theorem dX4_divided_1 : decode cX4_divided 1 = .ok (.bipush 6, 2) := by decide +kernel
theorem dX4_divided_3 : decode cX4_divided 3 = .ok (.if_icmp .lt 7, 3) := by decide +kernel
theorem dX4_divided_6 : decode cX4_divided 6 = .ok (.iconst 1, 1) := by decide +kernel
theorem dX4_divided_7 : decode cX4_divided 7 = .ok (.goto 4, 3) := by decide +kernel
theorem dX4_divided_10 : decode cX4_divided 10 = .ok (.iconst 0, 1) := by decide +kernel
theorem dX4_divided_11 : decode cX4_divided 11 = .ok (.istore_n 3, 1) := by decide +kernel
theorem dX4_divided_12 : decode cX4_divided 12 = .ok (.iload_n 2, 1) := by decide +kernel
theorem dX4_divided_13 : decode cX4_divided 13 = .ok (.ifCond .ne 13, 3) := by decide +kernel
theorem dX4_divided_16 : decode cX4_divided 16 = .ok (.iload_n 3, 1) := by decide +kernel
theorem dX4_divided_17 : decode cX4_divided 17 = .ok (.ifCond .eq 7, 3) := by decide +kernel
theorem dX4_divided_20 : decode cX4_divided 20 = .ok (.iload_n 1, 1) := by decide +kernel
theorem dX4_divided_21 : decode cX4_divided 21 = .ok (.goto 4, 3) := by decide +kernel
theorem dX4_divided_24 : decode cX4_divided 24 = .ok (.iconst (-1), 1) := by decide +kernel
theorem dX4_divided_25 : decode cX4_divided 25 = .ok (.ireturn, 1) := by decide +kernel
theorem dX4_divided_26 : decode cX4_divided 26 = .ok (.iload_n 0, 1) := by decide +kernel
theorem dX4_divided_27 : decode cX4_divided 27 = .ok (.iconst 1, 1) := by decide +kernel
theorem dX4_divided_28 : decode cX4_divided 28 = .ok (.iand, 1) := by decide +kernel
theorem dX4_divided_29 : decode cX4_divided 29 = .ok (.ifCond .ne 7, 3) := by decide +kernel
theorem dX4_divided_32 : decode cX4_divided 32 = .ok (.iconst 1, 1) := by decide +kernel
theorem dX4_divided_33 : decode cX4_divided 33 = .ok (.goto 4, 3) := by decide +kernel
theorem dX4_divided_36 : decode cX4_divided 36 = .ok (.iconst 0, 1) := by decide +kernel
theorem dX4_divided_37 : decode cX4_divided 37 = .ok (.istore 4, 2) := by decide +kernel
theorem dX4_divided_39 : decode cX4_divided 39 = .ok (.iload 4, 2) := by decide +kernel
theorem dX4_divided_41 : decode cX4_divided 41 = .ok (.ifCond .eq 8, 3) := by decide +kernel
theorem dX4_divided_44 : decode cX4_divided 44 = .ok (.iload_n 1, 1) := by decide +kernel
theorem dX4_divided_45 : decode cX4_divided 45 = .ok (.i2l, 1) := by decide +kernel
theorem dX4_divided_46 : decode cX4_divided 46 = .ok (.goto 7, 3) := by decide +kernel
theorem dX4_divided_49 : decode cX4_divided 49 = .ok (.iload_n 1, 1) := by decide +kernel
theorem dX4_divided_50 : decode cX4_divided 50 = .ok (.invokestatic 245, 3) := by decide +kernel
theorem dX4_divided_53 : decode cX4_divided 53 = .ok (.lstore 5, 2) := by decide +kernel
theorem dX4_divided_55 : decode cX4_divided 55 = .ok (.iload 4, 2) := by decide +kernel
theorem dX4_divided_57 : decode cX4_divided 57 = .ok (.ifCond .eq 8, 3) := by decide +kernel
theorem dX4_divided_60 : decode cX4_divided 60 = .ok (.iload_n 2, 1) := by decide +kernel
theorem dX4_divided_61 : decode cX4_divided 61 = .ok (.i2l, 1) := by decide +kernel
theorem dX4_divided_62 : decode cX4_divided 62 = .ok (.goto 7, 3) := by decide +kernel
theorem dX4_divided_65 : decode cX4_divided 65 = .ok (.iload_n 2, 1) := by decide +kernel
theorem dX4_divided_66 : decode cX4_divided 66 = .ok (.invokestatic 245, 3) := by decide +kernel
theorem dX4_divided_69 : decode cX4_divided 69 = .ok (.lstore 7, 2) := by decide +kernel
theorem dX4_divided_71 : decode cX4_divided 71 = .ok (.iload_n 3, 1) := by decide +kernel
theorem dX4_divided_72 : decode cX4_divided 72 = .ok (.ifCond .eq 11, 3) := by decide +kernel
theorem dX4_divided_75 : decode cX4_divided 75 = .ok (.lload 5, 2) := by decide +kernel
theorem dX4_divided_77 : decode cX4_divided 77 = .ok (.lload 7, 2) := by decide +kernel
theorem dX4_divided_79 : decode cX4_divided 79 = .ok (.lrem, 1) := by decide +kernel
theorem dX4_divided_80 : decode cX4_divided 80 = .ok (.goto 8, 3) := by decide +kernel
theorem dX4_divided_83 : decode cX4_divided 83 = .ok (.lload 5, 2) := by decide +kernel
theorem dX4_divided_85 : decode cX4_divided 85 = .ok (.lload 7, 2) := by decide +kernel
theorem dX4_divided_87 : decode cX4_divided 87 = .ok (.ldiv, 1) := by decide +kernel
theorem dX4_divided_88 : decode cX4_divided 88 = .ok (.l2i, 1) := by decide +kernel
theorem dX4_divided_89 : decode cX4_divided 89 = .ok (.ireturn, 1) := by decide +kernel
theorem dX4_system_0 : decode cX4_system 0 = .ok (.iload_n 1, 1) := by decide +kernel
theorem dX4_system_1 : decode cX4_system 1 = .ok (.lookupswitch 89 #[(115, 43), (1048691, 51), (273678451, 73), (807403635, 61)], 43) := by decide +kernel
theorem dX4_system_44 : decode cX4_system 44 = .ok (.aload_n 0, 1) := by decide +kernel
theorem dX4_system_45 : decode cX4_system 45 = .ok (.bipush 11, 2) := by decide +kernel
theorem dX4_system_47 : decode cX4_system 47 = .ok (.iconst 0, 1) := by decide +kernel
theorem dX4_system_48 : decode cX4_system 48 = .ok (.invokevirtual 135, 3) := by decide +kernel
theorem dX4_system_51 : decode cX4_system 51 = .ok (.ireturn, 1) := by decide +kernel
theorem dX4_system_52 : decode cX4_system 52 = .ok (.aload_n 0, 1) := by decide +kernel
theorem dX4_system_53 : decode cX4_system 53 = .ok (.iconst 3, 1) := by decide +kernel
theorem dX4_system_54 : decode cX4_system 54 = .ok (.aload_n 0, 1) := by decide +kernel
theorem dX4_system_55 : decode cX4_system 55 = .ok (.getfield 56, 3) := by decide +kernel
theorem dX4_system_58 : decode cX4_system 58 = .ok (.invokevirtual 135, 3) := by decide +kernel
theorem dX4_system_61 : decode cX4_system 61 = .ok (.ireturn, 1) := by decide +kernel
theorem dX4_system_62 : decode cX4_system 62 = .ok (.aload_n 0, 1) := by decide +kernel
theorem dX4_system_63 : decode cX4_system 63 = .ok (.aload_n 0, 1) := by decide +kernel
theorem dX4_system_64 : decode cX4_system 64 = .ok (.getfield 45, 3) := by decide +kernel
theorem dX4_system_67 : decode cX4_system 67 = .ok (.invokevirtual 249, 3) := by decide +kernel
theorem dX4_system_70 : decode cX4_system 70 = .ok (.invokevirtual 174, 3) := by decide +kernel
theorem dX4_system_73 : decode cX4_system 73 = .ok (.ireturn, 1) := by decide +kernel
theorem dX4_system_74 : decode cX4_system 74 = .ok (.aload_n 0, 1) := by decide +kernel
theorem dX4_system_75 : decode cX4_system 75 = .ok (.iconst 1, 1) := by decide +kernel
theorem dX4_system_76 : decode cX4_system 76 = .ok (.putfield 60, 3) := by decide +kernel
theorem dX4_system_79 : decode cX4_system 79 = .ok (.aload_n 0, 1) := by decide +kernel
theorem dX4_system_80 : decode cX4_system 80 = .ok (.aload_n 0, 1) := by decide +kernel
theorem dX4_system_81 : decode cX4_system 81 = .ok (.getfield 56, 3) := by decide +kernel
theorem dX4_system_84 : decode cX4_system 84 = .ok (.iconst 4, 1) := by decide +kernel
theorem dX4_system_85 : decode cX4_system 85 = .ok (.iadd, 1) := by decide +kernel
theorem dX4_system_86 : decode cX4_system 86 = .ok (.invokevirtual 174, 3) := by decide +kernel
theorem dX4_system_89 : decode cX4_system 89 = .ok (.ireturn, 1) := by decide +kernel
theorem dX4_system_90 : decode cX4_system 90 = .ok (.aload_n 0, 1) := by decide +kernel
theorem dX4_system_91 : decode cX4_system 91 = .ok (.iload_n 1, 1) := by decide +kernel
theorem dX4_system_92 : decode cX4_system 92 = .ok (.invokevirtual 156, 3) := by decide +kernel
theorem dX4_system_95 : decode cX4_system 95 = .ok (.ireturn, 1) := by decide +kernel
theorem dX4_control_0 : decode cX4_control 0 = .ok (.iload_n 1, 1) := by decide +kernel
theorem dX4_control_1 : decode cX4_control 1 = .ok (.invokestatic 147, 3) := by decide +kernel
theorem dX4_control_4 : decode cX4_control 4 = .ok (.istore_n 2, 1) := by decide +kernel
theorem dX4_control_5 : decode cX4_control 5 = .ok (.iload_n 2, 1) := by decide +kernel
theorem dX4_control_6 : decode cX4_control 6 = .ok (.iconst 3, 1) := by decide +kernel
theorem dX4_control_7 : decode cX4_control 7 = .ok (.iand, 1) := by decide +kernel
theorem dX4_control_8 : decode cX4_control 8 = .ok (.istore_n 3, 1) := by decide +kernel
theorem dX4_control_9 : decode cX4_control 9 = .ok (.iload_n 1, 1) := by decide +kernel
theorem dX4_control_10 : decode cX4_control 10 = .ok (.bipush 20, 2) := by decide +kernel
theorem dX4_control_12 : decode cX4_control 12 = .ok (.iushr, 1) := by decide +kernel
theorem dX4_control_13 : decode cX4_control 13 = .ok (.istore 4, 2) := by decide +kernel
theorem dX4_control_15 : decode cX4_control 15 = .ok (.iload_n 3, 1) := by decide +kernel
theorem dX4_control_16 : decode cX4_control 16 = .ok (.iconst 1, 1) := by decide +kernel
theorem dX4_control_17 : decode cX4_control 17 = .ok (.if_icmp .eq 10, 3) := by decide +kernel
theorem dX4_control_20 : decode cX4_control 20 = .ok (.iload_n 1, 1) := by decide +kernel
theorem dX4_control_21 : decode cX4_control 21 = .ok (.invokestatic 188, 3) := by decide +kernel
theorem dX4_control_24 : decode cX4_control 24 = .ok (.ifCond .eq 7, 3) := by decide +kernel
theorem dX4_control_27 : decode cX4_control 27 = .ok (.iconst 1, 1) := by decide +kernel
theorem dX4_control_28 : decode cX4_control 28 = .ok (.goto 4, 3) := by decide +kernel
theorem dX4_control_31 : decode cX4_control 31 = .ok (.iconst 0, 1) := by decide +kernel
theorem dX4_control_32 : decode cX4_control 32 = .ok (.istore 5, 2) := by decide +kernel
theorem dX4_control_34 : decode cX4_control 34 = .ok (.iload_n 3, 1) := by decide +kernel
theorem dX4_control_35 : decode cX4_control 35 = .ok (.ifCond .eq 24, 3) := by decide +kernel
theorem dX4_control_38 : decode cX4_control 38 = .ok (.iload 4, 2) := by decide +kernel
theorem dX4_control_40 : decode cX4_control 40 = .ok (.invokestatic 95, 3) := by decide +kernel
theorem dX4_control_43 : decode cX4_control 43 = .ok (.ifCond .eq 16, 3) := by decide +kernel
theorem dX4_control_46 : decode cX4_control 46 = .ok (.iload 5, 2) := by decide +kernel
theorem dX4_control_48 : decode cX4_control 48 = .ok (.ifCond .eq 17, 3) := by decide +kernel
theorem dX4_control_51 : decode cX4_control 51 = .ok (.iload 4, 2) := by decide +kernel
theorem dX4_control_53 : decode cX4_control 53 = .ok (.sipush 3072, 3) := by decide +kernel
theorem dX4_control_56 : decode cX4_control 56 = .ok (.if_icmp .lt 9, 3) := by decide +kernel
theorem dX4_control_59 : decode cX4_control 59 = .ok (.aload_n 0, 1) := by decide +kernel
theorem dX4_control_60 : decode cX4_control 60 = .ok (.iload_n 1, 1) := by decide +kernel
theorem dX4_control_61 : decode cX4_control 61 = .ok (.invokevirtual 156, 3) := by decide +kernel
theorem dX4_control_64 : decode cX4_control 64 = .ok (.ireturn, 1) := by decide +kernel
theorem dX4_control_65 : decode cX4_control 65 = .ok (.aload_n 0, 1) := by decide +kernel
theorem dX4_control_66 : decode cX4_control 66 = .ok (.getfield 45, 3) := by decide +kernel
theorem dX4_control_69 : decode cX4_control 69 = .ok (.iload 4, 2) := by decide +kernel
theorem dX4_control_71 : decode cX4_control 71 = .ok (.aload_n 0, 1) := by decide +kernel
theorem dX4_control_72 : decode cX4_control 72 = .ok (.getfield 31, 3) := by decide +kernel
theorem dX4_control_75 : decode cX4_control 75 = .ok (.invokevirtual 98, 3) := by decide +kernel
theorem dX4_control_78 : decode cX4_control 78 = .ok (.invokevirtual 102, 3) := by decide +kernel
theorem dX4_control_81 : decode cX4_control 81 = .ok (.istore 6, 2) := by decide +kernel
theorem dX4_control_83 : decode cX4_control 83 = .ok (.iload_n 2, 1) := by decide +kernel
theorem dX4_control_84 : decode cX4_control 84 = .ok (.iconst 4, 1) := by decide +kernel
theorem dX4_control_85 : decode cX4_control 85 = .ok (.if_icmp .ge 11, 3) := by decide +kernel
theorem dX4_control_88 : decode cX4_control 88 = .ok (.aload_n 0, 1) := by decide +kernel
theorem dX4_control_89 : decode cX4_control 89 = .ok (.iload_n 1, 1) := by decide +kernel
theorem dX4_control_90 : decode cX4_control 90 = .ok (.invokevirtual 150, 3) := by decide +kernel
theorem dX4_control_93 : decode cX4_control 93 = .ok (.goto 7, 3) := by decide +kernel
theorem dX4_control_96 : decode cX4_control 96 = .ok (.iload_n 1, 1) := by decide +kernel
theorem dX4_control_97 : decode cX4_control 97 = .ok (.invokestatic 188, 3) := by decide +kernel
theorem dX4_control_100 : decode cX4_control 100 = .ok (.istore 7, 2) := by decide +kernel
theorem dX4_control_102 : decode cX4_control 102 = .ok (.iload 5, 2) := by decide +kernel
theorem dX4_control_104 : decode cX4_control 104 = .ok (.ifCond .eq 42, 3) := by decide +kernel
theorem dX4_control_107 : decode cX4_control 107 = .ok (.aload_n 0, 1) := by decide +kernel
theorem dX4_control_108 : decode cX4_control 108 = .ok (.getfield 45, 3) := by decide +kernel
theorem dX4_control_111 : decode cX4_control 111 = .ok (.iload 4, 2) := by decide +kernel
theorem dX4_control_113 : decode cX4_control 113 = .ok (.iload_n 3, 1) := by decide +kernel
theorem dX4_control_114 : decode cX4_control 114 = .ok (.iconst 1, 1) := by decide +kernel
theorem dX4_control_115 : decode cX4_control 115 = .ok (.if_icmp .ne 8, 3) := by decide +kernel
theorem dX4_control_118 : decode cX4_control 118 = .ok (.iload 7, 2) := by decide +kernel
theorem dX4_control_120 : decode cX4_control 120 = .ok (.goto 23, 3) := by decide +kernel
theorem dX4_control_123 : decode cX4_control 123 = .ok (.iload_n 3, 1) := by decide +kernel
theorem dX4_control_124 : decode cX4_control 124 = .ok (.iconst 2, 1) := by decide +kernel
theorem dX4_control_125 : decode cX4_control 125 = .ok (.if_icmp .ne 11, 3) := by decide +kernel
theorem dX4_control_128 : decode cX4_control 128 = .ok (.iload 6, 2) := by decide +kernel
theorem dX4_control_130 : decode cX4_control 130 = .ok (.iload 7, 2) := by decide +kernel
theorem dX4_control_132 : decode cX4_control 132 = .ok (.ior, 1) := by decide +kernel
theorem dX4_control_133 : decode cX4_control 133 = .ok (.goto 10, 3) := by decide +kernel
theorem dX4_control_136 : decode cX4_control 136 = .ok (.iload 6, 2) := by decide +kernel
theorem dX4_control_138 : decode cX4_control 138 = .ok (.iload 7, 2) := by decide +kernel
theorem dX4_control_140 : decode cX4_control 140 = .ok (.iconst (-1), 1) := by decide +kernel
theorem dX4_control_141 : decode cX4_control 141 = .ok (.ixor, 1) := by decide +kernel
theorem dX4_control_142 : decode cX4_control 142 = .ok (.iand, 1) := by decide +kernel
theorem dX4_control_143 : decode cX4_control 143 = .ok (.invokevirtual 252, 3) := by decide +kernel
theorem dX4_control_146 : decode cX4_control 146 = .ok (.aload_n 0, 1) := by decide +kernel
theorem dX4_control_147 : decode cX4_control 147 = .ok (.iload_n 1, 1) := by decide +kernel
theorem dX4_control_148 : decode cX4_control 148 = .ok (.iload 6, 2) := by decide +kernel
theorem dX4_control_150 : decode cX4_control 150 = .ok (.invokevirtual 138, 3) := by decide +kernel
theorem dX4_control_153 : decode cX4_control 153 = .ok (.ireturn, 1) := by decide +kernel
theorem dX5_init_0 : decode cX5_init 0 = .ok (.aload_n 0, 1) := by decide +kernel
theorem dX5_init_1 : decode cX5_init 1 = .ok (.invokespecial 1, 3) := by decide +kernel
theorem dX5_init_4 : decode cX5_init 4 = .ok (.aload_n 0, 1) := by decide +kernel
theorem dX5_init_5 : decode cX5_init 5 = .ok (.ldc 7, 2) := by decide +kernel
theorem dX5_init_7 : decode cX5_init 7 = .ok (.newarray .int, 2) := by decide +kernel
theorem dX5_init_9 : decode cX5_init 9 = .ok (.putfield 8, 3) := by decide +kernel
theorem dX5_init_12 : decode cX5_init 12 = .ok (.aload_n 0, 1) := by decide +kernel
theorem dX5_init_13 : decode cX5_init 13 = .ok (.bipush 32, 2) := by decide +kernel
theorem dX5_init_15 : decode cX5_init 15 = .ok (.newarray .int, 2) := by decide +kernel
theorem dX5_init_17 : decode cX5_init 17 = .ok (.putfield 14, 3) := by decide +kernel
theorem dX5_init_20 : decode cX5_init 20 = .ok (.aload_n 0, 1) := by decide +kernel
theorem dX5_init_21 : decode cX5_init 21 = .ok (.sipush 4096, 3) := by decide +kernel
theorem dX5_init_24 : decode cX5_init 24 = .ok (.newarray .int, 2) := by decide +kernel
theorem dX5_init_26 : decode cX5_init 26 = .ok (.putfield 17, 3) := by decide +kernel
theorem dX5_init_29 : decode cX5_init 29 = .ok (.iload_n 1, 1) := by decide +kernel
theorem dX5_init_30 : decode cX5_init 30 = .ok (.bipush 64, 2) := by decide +kernel
theorem dX5_init_32 : decode cX5_init 32 = .ok (.if_icmp .ge 8, 3) := by decide +kernel
theorem dX5_init_35 : decode cX5_init 35 = .ok (.bipush 64, 2) := by decide +kernel
theorem dX5_init_37 : decode cX5_init 37 = .ok (.goto 15, 3) := by decide +kernel
theorem dX5_init_40 : decode cX5_init 40 = .ok (.iload_n 1, 1) := by decide +kernel
theorem dX5_init_41 : decode cX5_init 41 = .ok (.ldc 7, 2) := by decide +kernel
theorem dX5_init_43 : decode cX5_init 43 = .ok (.if_icmp .le 8, 3) := by decide +kernel
theorem dX5_init_46 : decode cX5_init 46 = .ok (.ldc 7, 2) := by decide +kernel
theorem dX5_init_48 : decode cX5_init 48 = .ok (.goto 4, 3) := by decide +kernel
theorem dX5_init_51 : decode cX5_init 51 = .ok (.iload_n 1, 1) := by decide +kernel
theorem dX5_init_52 : decode cX5_init 52 = .ok (.istore_n 3, 1) := by decide +kernel
theorem dX5_init_53 : decode cX5_init 53 = .ok (.aload_n 0, 1) := by decide +kernel
theorem dX5_init_54 : decode cX5_init 54 = .ok (.iload_n 3, 1) := by decide +kernel
theorem dX5_init_55 : decode cX5_init 55 = .ok (.bipush (-4), 2) := by decide +kernel
theorem dX5_init_57 : decode cX5_init 57 = .ok (.iand, 1) := by decide +kernel
theorem dX5_init_58 : decode cX5_init 58 = .ok (.putfield 20, 3) := by decide +kernel
theorem dX5_init_61 : decode cX5_init 61 = .ok (.aload_n 0, 1) := by decide +kernel
theorem dX5_init_62 : decode cX5_init 62 = .ok (.iload_n 2, 1) := by decide +kernel
theorem dX5_init_63 : decode cX5_init 63 = .ok (.ifCond .ge 7, 3) := by decide +kernel
theorem dX5_init_66 : decode cX5_init 66 = .ok (.iconst 0, 1) := by decide +kernel
theorem dX5_init_67 : decode cX5_init 67 = .ok (.goto 17, 3) := by decide +kernel
theorem dX5_init_70 : decode cX5_init 70 = .ok (.iload_n 2, 1) := by decide +kernel
theorem dX5_init_71 : decode cX5_init 71 = .ok (.sipush 4096, 3) := by decide +kernel
theorem dX5_init_74 : decode cX5_init 74 = .ok (.if_icmp .le 9, 3) := by decide +kernel
theorem dX5_init_77 : decode cX5_init 77 = .ok (.sipush 4096, 3) := by decide +kernel
theorem dX5_init_80 : decode cX5_init 80 = .ok (.goto 4, 3) := by decide +kernel
theorem dX5_init_83 : decode cX5_init 83 = .ok (.iload_n 2, 1) := by decide +kernel
theorem dX5_init_84 : decode cX5_init 84 = .ok (.putfield 24, 3) := by decide +kernel
theorem dX5_init_87 : decode cX5_init 87 = .ok (.aload_n 0, 1) := by decide +kernel
theorem dX5_init_88 : decode cX5_init 88 = .ok (.invokevirtual 27, 3) := by decide +kernel
theorem dX5_init_91 : decode cX5_init 91 = .ok (.return_, 1) := by decide +kernel
theorem dX5_reset_0 : decode cX5_reset 0 = .ok (.iconst 0, 1) := by decide +kernel
theorem dX5_reset_1 : decode cX5_reset 1 = .ok (.istore_n 1, 1) := by decide +kernel
theorem dX5_reset_2 : decode cX5_reset 2 = .ok (.iload_n 1, 1) := by decide +kernel
theorem dX5_reset_3 : decode cX5_reset 3 = .ok (.bipush 32, 2) := by decide +kernel
theorem dX5_reset_5 : decode cX5_reset 5 = .ok (.if_icmp .ge 16, 3) := by decide +kernel
theorem dX5_reset_8 : decode cX5_reset 8 = .ok (.aload_n 0, 1) := by decide +kernel
theorem dX5_reset_9 : decode cX5_reset 9 = .ok (.getfield 14, 3) := by decide +kernel
theorem dX5_reset_12 : decode cX5_reset 12 = .ok (.iload_n 1, 1) := by decide +kernel
theorem dX5_reset_13 : decode cX5_reset 13 = .ok (.iconst 0, 1) := by decide +kernel
theorem dX5_reset_14 : decode cX5_reset 14 = .ok (.iastore, 1) := by decide +kernel
theorem dX5_reset_15 : decode cX5_reset 15 = .ok (.iinc 1 1, 3) := by decide +kernel
theorem dX5_reset_18 : decode cX5_reset 18 = .ok (.goto (-16), 3) := by decide +kernel
theorem dX5_reset_21 : decode cX5_reset 21 = .ok (.aload_n 0, 1) := by decide +kernel
theorem dX5_reset_22 : decode cX5_reset 22 = .ok (.iconst 0, 1) := by decide +kernel
theorem dX5_reset_23 : decode cX5_reset 23 = .ok (.putfield 30, 3) := by decide +kernel
theorem dX5_reset_26 : decode cX5_reset 26 = .ok (.aload_n 0, 1) := by decide +kernel
theorem dX5_reset_27 : decode cX5_reset 27 = .ok (.iconst 0, 1) := by decide +kernel
theorem dX5_reset_28 : decode cX5_reset 28 = .ok (.putfield 33, 3) := by decide +kernel
theorem dX5_reset_31 : decode cX5_reset 31 = .ok (.aload_n 0, 1) := by decide +kernel
theorem dX5_reset_32 : decode cX5_reset 32 = .ok (.iconst 0, 1) := by decide +kernel
theorem dX5_reset_33 : decode cX5_reset 33 = .ok (.putfield 37, 3) := by decide +kernel
theorem dX5_reset_36 : decode cX5_reset 36 = .ok (.aload_n 0, 1) := by decide +kernel
theorem dX5_reset_37 : decode cX5_reset 37 = .ok (.iconst 0, 1) := by decide +kernel
theorem dX5_reset_38 : decode cX5_reset 38 = .ok (.putfield 40, 3) := by decide +kernel
theorem dX5_reset_41 : decode cX5_reset 41 = .ok (.aload_n 0, 1) := by decide +kernel
theorem dX5_reset_42 : decode cX5_reset 42 = .ok (.iconst 0, 1) := by decide +kernel
theorem dX5_reset_43 : decode cX5_reset 43 = .ok (.putfield 43, 3) := by decide +kernel
theorem dX5_reset_46 : decode cX5_reset 46 = .ok (.aload_n 0, 1) := by decide +kernel
theorem dX5_reset_47 : decode cX5_reset 47 = .ok (.iconst 0, 1) := by decide +kernel
theorem dX5_reset_48 : decode cX5_reset 48 = .ok (.putfield 46, 3) := by decide +kernel
theorem dX5_reset_51 : decode cX5_reset 51 = .ok (.aload_n 0, 1) := by decide +kernel
theorem dX5_reset_52 : decode cX5_reset 52 = .ok (.iconst 0, 1) := by decide +kernel
theorem dX5_reset_53 : decode cX5_reset 53 = .ok (.putfield 49, 3) := by decide +kernel
theorem dX5_reset_56 : decode cX5_reset 56 = .ok (.aload_n 0, 1) := by decide +kernel
theorem dX5_reset_57 : decode cX5_reset 57 = .ok (.iconst 0, 1) := by decide +kernel
theorem dX5_reset_58 : decode cX5_reset 58 = .ok (.putfield 52, 3) := by decide +kernel
theorem dX5_reset_61 : decode cX5_reset 61 = .ok (.aload_n 0, 1) := by decide +kernel
theorem dX5_reset_62 : decode cX5_reset 62 = .ok (.iconst 0, 1) := by decide +kernel
theorem dX5_reset_63 : decode cX5_reset 63 = .ok (.putfield 55, 3) := by decide +kernel
theorem dX5_reset_66 : decode cX5_reset 66 = .ok (.aload_n 0, 1) := by decide +kernel
theorem dX5_reset_67 : decode cX5_reset 67 = .ok (.lconst 0, 1) := by decide +kernel
theorem dX5_reset_68 : decode cX5_reset 68 = .ok (.putfield 58, 3) := by decide +kernel
theorem dX5_reset_71 : decode cX5_reset 71 = .ok (.aload_n 0, 1) := by decide +kernel
theorem dX5_reset_72 : decode cX5_reset 72 = .ok (.ldc2_w 62, 3) := by decide +kernel
theorem dX5_reset_75 : decode cX5_reset 75 = .ok (.putfield 64, 3) := by decide +kernel
theorem dX5_reset_78 : decode cX5_reset 78 = .ok (.aload_n 0, 1) := by decide +kernel
theorem dX5_reset_79 : decode cX5_reset 79 = .ok (.iconst 0, 1) := by decide +kernel
theorem dX5_reset_80 : decode cX5_reset 80 = .ok (.putfield 67, 3) := by decide +kernel
theorem dX5_reset_83 : decode cX5_reset 83 = .ok (.aload_n 0, 1) := by decide +kernel
theorem dX5_reset_84 : decode cX5_reset 84 = .ok (.lconst 0, 1) := by decide +kernel
theorem dX5_reset_85 : decode cX5_reset 85 = .ok (.putfield 70, 3) := by decide +kernel
theorem dX5_reset_88 : decode cX5_reset 88 = .ok (.aload_n 0, 1) := by decide +kernel
theorem dX5_reset_89 : decode cX5_reset 89 = .ok (.iconst 0, 1) := by decide +kernel
theorem dX5_reset_90 : decode cX5_reset 90 = .ok (.putfield 73, 3) := by decide +kernel
theorem dX5_reset_93 : decode cX5_reset 93 = .ok (.aload_n 0, 1) := by decide +kernel
theorem dX5_reset_94 : decode cX5_reset 94 = .ok (.iconst 0, 1) := by decide +kernel
theorem dX5_reset_95 : decode cX5_reset 95 = .ok (.putfield 76, 3) := by decide +kernel
theorem dX5_reset_98 : decode cX5_reset 98 = .ok (.return_, 1) := by decide +kernel
theorem dX5_isThere_0 : decode cX5_isThere 0 = .ok (.iload_n 1, 1) := by decide +kernel
theorem dX5_isThere_1 : decode cX5_isThere 1 = .ok (.ifCond .lt 17, 3) := by decide +kernel
theorem dX5_isThere_4 : decode cX5_isThere 4 = .ok (.iload_n 1, 1) := by decide +kernel
theorem dX5_isThere_5 : decode cX5_isThere 5 = .ok (.aload_n 0, 1) := by decide +kernel
theorem dX5_isThere_6 : decode cX5_isThere 6 = .ok (.getfield 20, 3) := by decide +kernel
theorem dX5_isThere_9 : decode cX5_isThere 9 = .ok (.iload_n 2, 1) := by decide +kernel
theorem dX5_isThere_10 : decode cX5_isThere 10 = .ok (.isub, 1) := by decide +kernel
theorem dX5_isThere_11 : decode cX5_isThere 11 = .ok (.if_icmp .gt 7, 3) := by decide +kernel
theorem dX5_isThere_14 : decode cX5_isThere 14 = .ok (.iconst 1, 1) := by decide +kernel
theorem dX5_isThere_15 : decode cX5_isThere 15 = .ok (.goto 4, 3) := by decide +kernel
theorem dX5_isThere_18 : decode cX5_isThere 18 = .ok (.iconst 0, 1) := by decide +kernel
theorem dX5_isThere_19 : decode cX5_isThere 19 = .ok (.ireturn, 1) := by decide +kernel
theorem dX5_poke_0 : decode cX5_poke 0 = .ok (.aload_n 0, 1) := by decide +kernel
