/-! decode rows -/
theorem dX5_poke_1 : decode cX5_poke 1 = .ok (.iload_n 1, 1) := by decide +kernel
theorem dX5_poke_2 : decode cX5_poke 2 = .ok (.iconst 1, 1) := by decide +kernel
theorem dX5_poke_3 : decode cX5_poke 3 = .ok (.invokevirtual 79, 3) := by decide +kernel
theorem dX5_poke_6 : decode cX5_poke 6 = .ok (.ifCond .ne 5, 3) := by decide +kernel
theorem dX5_poke_9 : decode cX5_poke 9 = .ok (.iconst 0, 1) := by decide +kernel
theorem dX5_poke_10 : decode cX5_poke 10 = .ok (.ireturn, 1) := by decide +kernel
theorem dX5_poke_11 : decode cX5_poke 11 = .ok (.aload_n 0, 1) := by decide +kernel
theorem dX5_poke_12 : decode cX5_poke 12 = .ok (.getfield 8, 3) := by decide +kernel
theorem dX5_poke_15 : decode cX5_poke 15 = .ok (.iload_n 1, 1) := by decide +kernel
theorem dX5_poke_16 : decode cX5_poke 16 = .ok (.iload_n 2, 1) := by decide +kernel
theorem dX5_poke_17 : decode cX5_poke 17 = .ok (.sipush 255, 3) := by decide +kernel
theorem dX5_poke_20 : decode cX5_poke 20 = .ok (.iand, 1) := by decide +kernel
theorem dX5_poke_21 : decode cX5_poke 21 = .ok (.iastore, 1) := by decide +kernel
theorem dX5_poke_22 : decode cX5_poke 22 = .ok (.iconst 1, 1) := by decide +kernel
theorem dX5_poke_23 : decode cX5_poke 23 = .ok (.ireturn, 1) := by decide +kernel
theorem dX5_load_0 : decode cX5_load 0 = .ok (.aload_n 0, 1) := by decide +kernel
theorem dX5_load_1 : decode cX5_load 1 = .ok (.iload_n 1, 1) := by decide +kernel
theorem dX5_load_2 : decode cX5_load 2 = .ok (.iconst 4, 1) := by decide +kernel
theorem dX5_load_3 : decode cX5_load 3 = .ok (.invokevirtual 79, 3) := by decide +kernel
theorem dX5_load_6 : decode cX5_load 6 = .ok (.ifCond .ne 5, 3) := by decide +kernel
theorem dX5_load_9 : decode cX5_load 9 = .ok (.iconst 0, 1) := by decide +kernel
theorem dX5_load_10 : decode cX5_load 10 = .ok (.ireturn, 1) := by decide +kernel
theorem dX5_load_11 : decode cX5_load 11 = .ok (.aload_n 0, 1) := by decide +kernel
theorem dX5_load_12 : decode cX5_load 12 = .ok (.iload_n 1, 1) := by decide +kernel
theorem dX5_load_13 : decode cX5_load 13 = .ok (.iconst 4, 1) := by decide +kernel
theorem dX5_load_14 : decode cX5_load 14 = .ok (.iload_n 2, 1) := by decide +kernel
theorem dX5_load_15 : decode cX5_load 15 = .ok (.invokevirtual 83, 3) := by decide +kernel
theorem dX5_load_18 : decode cX5_load 18 = .ok (.iconst 1, 1) := by decide +kernel
theorem dX5_load_19 : decode cX5_load 19 = .ok (.ireturn, 1) := by decide +kernel
theorem dX5_peek_0 : decode cX5_peek 0 = .ok (.aload_n 0, 1) := by decide +kernel
theorem dX5_peek_1 : decode cX5_peek 1 = .ok (.iload_n 1, 1) := by decide +kernel
theorem dX5_peek_2 : decode cX5_peek 2 = .ok (.iconst 1, 1) := by decide +kernel
theorem dX5_peek_3 : decode cX5_peek 3 = .ok (.invokevirtual 79, 3) := by decide +kernel
theorem dX5_peek_6 : decode cX5_peek 6 = .ok (.ifCond .eq 12, 3) := by decide +kernel
theorem dX5_peek_9 : decode cX5_peek 9 = .ok (.aload_n 0, 1) := by decide +kernel
theorem dX5_peek_10 : decode cX5_peek 10 = .ok (.getfield 8, 3) := by decide +kernel
theorem dX5_peek_13 : decode cX5_peek 13 = .ok (.iload_n 1, 1) := by decide +kernel
theorem dX5_peek_14 : decode cX5_peek 14 = .ok (.iaload, 1) := by decide +kernel
theorem dX5_peek_15 : decode cX5_peek 15 = .ok (.goto 4, 3) := by decide +kernel
theorem dX5_peek_18 : decode cX5_peek 18 = .ok (.iconst (-1), 1) := by decide +kernel
theorem dX5_peek_19 : decode cX5_peek 19 = .ok (.ireturn, 1) := by decide +kernel
theorem dX5_put_0 : decode cX5_put 0 = .ok (.iconst 0, 1) := by decide +kernel
theorem dX5_put_1 : decode cX5_put 1 = .ok (.istore 4, 2) := by decide +kernel
theorem dX5_put_3 : decode cX5_put 3 = .ok (.iload 4, 2) := by decide +kernel
theorem dX5_put_5 : decode cX5_put 5 = .ok (.iload_n 2, 1) := by decide +kernel
theorem dX5_put_6 : decode cX5_put 6 = .ok (.if_icmp .ge 29, 3) := by decide +kernel
theorem dX5_put_9 : decode cX5_put 9 = .ok (.aload_n 0, 1) := by decide +kernel
theorem dX5_put_10 : decode cX5_put 10 = .ok (.getfield 8, 3) := by decide +kernel
theorem dX5_put_13 : decode cX5_put 13 = .ok (.iload_n 1, 1) := by decide +kernel
theorem dX5_put_14 : decode cX5_put 14 = .ok (.iload 4, 2) := by decide +kernel
theorem dX5_put_16 : decode cX5_put 16 = .ok (.iadd, 1) := by decide +kernel
theorem dX5_put_17 : decode cX5_put 17 = .ok (.iload_n 3, 1) := by decide +kernel
theorem dX5_put_18 : decode cX5_put 18 = .ok (.bipush 8, 2) := by decide +kernel
theorem dX5_put_20 : decode cX5_put 20 = .ok (.iload 4, 2) := by decide +kernel
theorem dX5_put_22 : decode cX5_put 22 = .ok (.imul, 1) := by decide +kernel
theorem dX5_put_23 : decode cX5_put 23 = .ok (.ishr, 1) := by decide +kernel
theorem dX5_put_24 : decode cX5_put 24 = .ok (.sipush 255, 3) := by decide +kernel
theorem dX5_put_27 : decode cX5_put 27 = .ok (.iand, 1) := by decide +kernel
theorem dX5_put_28 : decode cX5_put 28 = .ok (.iastore, 1) := by decide +kernel
theorem dX5_put_29 : decode cX5_put 29 = .ok (.iinc 4 1, 3) := by decide +kernel
theorem dX5_put_32 : decode cX5_put 32 = .ok (.goto (-29), 3) := by decide +kernel
theorem dX5_put_35 : decode cX5_put 35 = .ok (.return_, 1) := by decide +kernel
theorem dX5_get_0 : decode cX5_get 0 = .ok (.iconst 0, 1) := by decide +kernel
theorem dX5_get_1 : decode cX5_get 1 = .ok (.istore_n 3, 1) := by decide +kernel
theorem dX5_get_2 : decode cX5_get 2 = .ok (.iload_n 2, 1) := by decide +kernel
theorem dX5_get_3 : decode cX5_get 3 = .ok (.iconst 1, 1) := by decide +kernel
theorem dX5_get_4 : decode cX5_get 4 = .ok (.isub, 1) := by decide +kernel
theorem dX5_get_5 : decode cX5_get 5 = .ok (.istore 4, 2) := by decide +kernel
theorem dX5_get_7 : decode cX5_get 7 = .ok (.iload 4, 2) := by decide +kernel
theorem dX5_get_9 : decode cX5_get 9 = .ok (.ifCond .lt 24, 3) := by decide +kernel
theorem dX5_get_12 : decode cX5_get 12 = .ok (.iload_n 3, 1) := by decide +kernel
theorem dX5_get_13 : decode cX5_get 13 = .ok (.bipush 8, 2) := by decide +kernel
theorem dX5_get_15 : decode cX5_get 15 = .ok (.ishl, 1) := by decide +kernel
theorem dX5_get_16 : decode cX5_get 16 = .ok (.aload_n 0, 1) := by decide +kernel
theorem dX5_get_17 : decode cX5_get 17 = .ok (.getfield 8, 3) := by decide +kernel
theorem dX5_get_20 : decode cX5_get 20 = .ok (.iload_n 1, 1) := by decide +kernel
theorem dX5_get_21 : decode cX5_get 21 = .ok (.iload 4, 2) := by decide +kernel
theorem dX5_get_23 : decode cX5_get 23 = .ok (.iadd, 1) := by decide +kernel
theorem dX5_get_24 : decode cX5_get 24 = .ok (.iaload, 1) := by decide +kernel
theorem dX5_get_25 : decode cX5_get 25 = .ok (.ior, 1) := by decide +kernel
theorem dX5_get_26 : decode cX5_get 26 = .ok (.istore_n 3, 1) := by decide +kernel
theorem dX5_get_27 : decode cX5_get 27 = .ok (.iinc 4 (-1), 3) := by decide +kernel
theorem dX5_get_30 : decode cX5_get 30 = .ok (.goto (-23), 3) := by decide +kernel
theorem dX5_get_33 : decode cX5_get 33 = .ok (.iload_n 3, 1) := by decide +kernel
theorem dX5_get_34 : decode cX5_get 34 = .ok (.ireturn, 1) := by decide +kernel
theorem dX5_isDue_0 : decode cX5_isDue 0 = .ok (.aload_n 0, 1) := by decide +kernel
theorem dX5_isDue_1 : decode cX5_isDue 1 = .ok (.getfield 58, 3) := by decide +kernel
theorem dX5_isDue_4 : decode cX5_isDue 4 = .ok (.ldc2_w 87, 3) := by decide +kernel
theorem dX5_isDue_7 : decode cX5_isDue 7 = .ok (.lxor, 1) := by decide +kernel
theorem dX5_isDue_8 : decode cX5_isDue 8 = .ok (.aload_n 0, 1) := by decide +kernel
theorem dX5_isDue_9 : decode cX5_isDue 9 = .ok (.getfield 64, 3) := by decide +kernel
theorem dX5_isDue_12 : decode cX5_isDue 12 = .ok (.ldc2_w 87, 3) := by decide +kernel
theorem dX5_isDue_15 : decode cX5_isDue 15 = .ok (.lxor, 1) := by decide +kernel
theorem dX5_isDue_16 : decode cX5_isDue 16 = .ok (.lcmp, 1) := by decide +kernel
theorem dX5_isDue_17 : decode cX5_isDue 17 = .ok (.ifCond .lt 7, 3) := by decide +kernel
theorem dX5_isDue_20 : decode cX5_isDue 20 = .ok (.iconst 1, 1) := by decide +kernel
theorem dX5_isDue_21 : decode cX5_isDue 21 = .ok (.goto 4, 3) := by decide +kernel
theorem dX5_isDue_24 : decode cX5_isDue 24 = .ok (.iconst 0, 1) := by decide +kernel
theorem dX5_isDue_25 : decode cX5_isDue 25 = .ok (.ireturn, 1) := by decide +kernel
theorem dX5_isListed_0 : decode cX5_isListed 0 = .ok (.iload_n 0, 1) := by decide +kernel
theorem dX5_isListed_1 : decode cX5_isListed 1 = .ok (.sipush 768, 3) := by decide +kernel
theorem dX5_isListed_4 : decode cX5_isListed 4 = .ok (.if_icmp .eq 45, 3) := by decide +kernel
theorem dX5_isListed_7 : decode cX5_isListed 7 = .ok (.iload_n 0, 1) := by decide +kernel
theorem dX5_isListed_8 : decode cX5_isListed 8 = .ok (.sipush 769, 3) := by decide +kernel
theorem dX5_isListed_11 : decode cX5_isListed 11 = .ok (.if_icmp .eq 38, 3) := by decide +kernel
theorem dX5_isListed_14 : decode cX5_isListed 14 = .ok (.iload_n 0, 1) := by decide +kernel
theorem dX5_isListed_15 : decode cX5_isListed 15 = .ok (.sipush 772, 3) := by decide +kernel
theorem dX5_isListed_18 : decode cX5_isListed 18 = .ok (.if_icmp .eq 31, 3) := by decide +kernel
theorem dX5_isListed_21 : decode cX5_isListed 21 = .ok (.iload_n 0, 1) := by decide +kernel
theorem dX5_isListed_22 : decode cX5_isListed 22 = .ok (.sipush 773, 3) := by decide +kernel
theorem dX5_isListed_25 : decode cX5_isListed 25 = .ok (.if_icmp .eq 24, 3) := by decide +kernel
theorem dX5_isListed_28 : decode cX5_isListed 28 = .ok (.iload_n 0, 1) := by decide +kernel
theorem dX5_isListed_29 : decode cX5_isListed 29 = .ok (.sipush 832, 3) := by decide +kernel
theorem dX5_isListed_32 : decode cX5_isListed 32 = .ok (.if_icmp .lt 10, 3) := by decide +kernel
theorem dX5_isListed_35 : decode cX5_isListed 35 = .ok (.iload_n 0, 1) := by decide +kernel
theorem dX5_isListed_36 : decode cX5_isListed 36 = .ok (.sipush 836, 3) := by decide +kernel
theorem dX5_isListed_39 : decode cX5_isListed 39 = .ok (.if_icmp .le 10, 3) := by decide +kernel
theorem dX5_isListed_42 : decode cX5_isListed 42 = .ok (.iload_n 0, 1) := by decide +kernel
theorem dX5_isListed_43 : decode cX5_isListed 43 = .ok (.sipush 3860, 3) := by decide +kernel
theorem dX5_isListed_46 : decode cX5_isListed 46 = .ok (.if_icmp .ne 7, 3) := by decide +kernel
theorem dX5_isListed_49 : decode cX5_isListed 49 = .ok (.iconst 1, 1) := by decide +kernel
theorem dX5_isListed_50 : decode cX5_isListed 50 = .ok (.goto 4, 3) := by decide +kernel
theorem dX5_isListed_53 : decode cX5_isListed 53 = .ok (.iconst 0, 1) := by decide +kernel
theorem dX5_isListed_54 : decode cX5_isListed 54 = .ok (.ireturn, 1) := by decide +kernel
theorem dX5_csr_0 : decode cX5_csr 0 = .ok (.iload_n 1, 1) := by decide +kernel
theorem dX5_csr_1 : decode cX5_csr 1 = .ok (.lookupswitch 164 #[(768, 83), (769, 116), (772, 119), (773, 124), (832, 129), (833, 134), (834, 139), (835, 144), (836, 149)], 83) := by decide +kernel
theorem dX5_csr_84 : decode cX5_csr 84 = .ok (.sipush 6144, 3) := by decide +kernel
theorem dX5_csr_87 : decode cX5_csr 87 = .ok (.aload_n 0, 1) := by decide +kernel
theorem dX5_csr_88 : decode cX5_csr 88 = .ok (.getfield 33, 3) := by decide +kernel
theorem dX5_csr_91 : decode cX5_csr 91 = .ok (.ifCond .eq 8, 3) := by decide +kernel
theorem dX5_csr_94 : decode cX5_csr 94 = .ok (.bipush 8, 2) := by decide +kernel
theorem dX5_csr_96 : decode cX5_csr 96 = .ok (.goto 4, 3) := by decide +kernel
theorem dX5_csr_99 : decode cX5_csr 99 = .ok (.iconst 0, 1) := by decide +kernel
theorem dX5_csr_100 : decode cX5_csr 100 = .ok (.ior, 1) := by decide +kernel
theorem dX5_csr_101 : decode cX5_csr 101 = .ok (.aload_n 0, 1) := by decide +kernel
theorem dX5_csr_102 : decode cX5_csr 102 = .ok (.getfield 37, 3) := by decide +kernel
theorem dX5_csr_105 : decode cX5_csr 105 = .ok (.ifCond .eq 9, 3) := by decide +kernel
theorem dX5_csr_108 : decode cX5_csr 108 = .ok (.sipush 128, 3) := by decide +kernel
theorem dX5_csr_111 : decode cX5_csr 111 = .ok (.goto 4, 3) := by decide +kernel
theorem dX5_csr_114 : decode cX5_csr 114 = .ok (.iconst 0, 1) := by decide +kernel
theorem dX5_csr_115 : decode cX5_csr 115 = .ok (.ior, 1) := by decide +kernel
theorem dX5_csr_116 : decode cX5_csr 116 = .ok (.ireturn, 1) := by decide +kernel
theorem dX5_csr_117 : decode cX5_csr 117 = .ok (.ldc 89, 2) := by decide +kernel
theorem dX5_csr_119 : decode cX5_csr 119 = .ok (.ireturn, 1) := by decide +kernel
theorem dX5_csr_120 : decode cX5_csr 120 = .ok (.aload_n 0, 1) := by decide +kernel
theorem dX5_csr_121 : decode cX5_csr 121 = .ok (.getfield 40, 3) := by decide +kernel
theorem dX5_csr_124 : decode cX5_csr 124 = .ok (.ireturn, 1) := by decide +kernel
theorem dX5_csr_125 : decode cX5_csr 125 = .ok (.aload_n 0, 1) := by decide +kernel
theorem dX5_csr_126 : decode cX5_csr 126 = .ok (.getfield 43, 3) := by decide +kernel
theorem dX5_csr_129 : decode cX5_csr 129 = .ok (.ireturn, 1) := by decide +kernel
theorem dX5_csr_130 : decode cX5_csr 130 = .ok (.aload_n 0, 1) := by decide +kernel
theorem dX5_csr_131 : decode cX5_csr 131 = .ok (.getfield 46, 3) := by decide +kernel
theorem dX5_csr_134 : decode cX5_csr 134 = .ok (.ireturn, 1) := by decide +kernel
theorem dX5_csr_135 : decode cX5_csr 135 = .ok (.aload_n 0, 1) := by decide +kernel
theorem dX5_csr_136 : decode cX5_csr 136 = .ok (.getfield 49, 3) := by decide +kernel
theorem dX5_csr_139 : decode cX5_csr 139 = .ok (.ireturn, 1) := by decide +kernel
theorem dX5_csr_140 : decode cX5_csr 140 = .ok (.aload_n 0, 1) := by decide +kernel
theorem dX5_csr_141 : decode cX5_csr 141 = .ok (.getfield 52, 3) := by decide +kernel
theorem dX5_csr_144 : decode cX5_csr 144 = .ok (.ireturn, 1) := by decide +kernel
theorem dX5_csr_145 : decode cX5_csr 145 = .ok (.aload_n 0, 1) := by decide +kernel
theorem dX5_csr_146 : decode cX5_csr 146 = .ok (.getfield 55, 3) := by decide +kernel
theorem dX5_csr_149 : decode cX5_csr 149 = .ok (.ireturn, 1) := by decide +kernel
theorem dX5_csr_150 : decode cX5_csr 150 = .ok (.aload_n 0, 1) := by decide +kernel
theorem dX5_csr_151 : decode cX5_csr 151 = .ok (.invokevirtual 90, 3) := by decide +kernel
theorem dX5_csr_154 : decode cX5_csr 154 = .ok (.ifCond .eq 9, 3) := by decide +kernel
theorem dX5_csr_157 : decode cX5_csr 157 = .ok (.sipush 128, 3) := by decide +kernel
theorem dX5_csr_160 : decode cX5_csr 160 = .ok (.goto 4, 3) := by decide +kernel
theorem dX5_csr_163 : decode cX5_csr 163 = .ok (.iconst 0, 1) := by decide +kernel
theorem dX5_csr_164 : decode cX5_csr 164 = .ok (.ireturn, 1) := by decide +kernel
theorem dX5_csr_165 : decode cX5_csr 165 = .ok (.iconst 0, 1) := by decide +kernel
theorem dX5_csr_166 : decode cX5_csr 166 = .ok (.ireturn, 1) := by decide +kernel
theorem dX5_setCsr_0 : decode cX5_setCsr 0 = .ok (.iload_n 1, 1) := by decide +kernel
theorem dX5_setCsr_1 : decode cX5_setCsr 1 = .ok (.lookupswitch 164 #[(768, 67), (772, 103), (773, 115), (832, 126), (833, 134), (834, 145), (835, 156)], 67) := by decide +kernel
theorem dX5_setCsr_68 : decode cX5_setCsr 68 = .ok (.aload_n 0, 1) := by decide +kernel
theorem dX5_setCsr_69 : decode cX5_setCsr 69 = .ok (.iload_n 2, 1) := by decide +kernel
theorem dX5_setCsr_70 : decode cX5_setCsr 70 = .ok (.bipush 8, 2) := by decide +kernel
theorem dX5_setCsr_72 : decode cX5_setCsr 72 = .ok (.iand, 1) := by decide +kernel
theorem dX5_setCsr_73 : decode cX5_setCsr 73 = .ok (.ifCond .eq 7, 3) := by decide +kernel
theorem dX5_setCsr_76 : decode cX5_setCsr 76 = .ok (.iconst 1, 1) := by decide +kernel
theorem dX5_setCsr_77 : decode cX5_setCsr 77 = .ok (.goto 4, 3) := by decide +kernel
theorem dX5_setCsr_80 : decode cX5_setCsr 80 = .ok (.iconst 0, 1) := by decide +kernel
theorem dX5_setCsr_81 : decode cX5_setCsr 81 = .ok (.putfield 33, 3) := by decide +kernel
theorem dX5_setCsr_84 : decode cX5_setCsr 84 = .ok (.aload_n 0, 1) := by decide +kernel
theorem dX5_setCsr_85 : decode cX5_setCsr 85 = .ok (.iload_n 2, 1) := by decide +kernel
theorem dX5_setCsr_86 : decode cX5_setCsr 86 = .ok (.sipush 128, 3) := by decide +kernel
theorem dX5_setCsr_89 : decode cX5_setCsr 89 = .ok (.iand, 1) := by decide +kernel
theorem dX5_setCsr_90 : decode cX5_setCsr 90 = .ok (.ifCond .eq 7, 3) := by decide +kernel
theorem dX5_setCsr_93 : decode cX5_setCsr 93 = .ok (.iconst 1, 1) := by decide +kernel
theorem dX5_setCsr_94 : decode cX5_setCsr 94 = .ok (.goto 4, 3) := by decide +kernel
theorem dX5_setCsr_97 : decode cX5_setCsr 97 = .ok (.iconst 0, 1) := by decide +kernel
theorem dX5_setCsr_98 : decode cX5_setCsr 98 = .ok (.putfield 37, 3) := by decide +kernel
theorem dX5_setCsr_101 : decode cX5_setCsr 101 = .ok (.goto 64, 3) := by decide +kernel
theorem dX5_setCsr_104 : decode cX5_setCsr 104 = .ok (.aload_n 0, 1) := by decide +kernel
theorem dX5_setCsr_105 : decode cX5_setCsr 105 = .ok (.iload_n 2, 1) := by decide +kernel
theorem dX5_setCsr_106 : decode cX5_setCsr 106 = .ok (.sipush 2184, 3) := by decide +kernel
theorem dX5_setCsr_109 : decode cX5_setCsr 109 = .ok (.iand, 1) := by decide +kernel
theorem dX5_setCsr_110 : decode cX5_setCsr 110 = .ok (.putfield 40, 3) := by decide +kernel
theorem dX5_setCsr_113 : decode cX5_setCsr 113 = .ok (.goto 52, 3) := by decide +kernel
theorem dX5_setCsr_116 : decode cX5_setCsr 116 = .ok (.aload_n 0, 1) := by decide +kernel
theorem dX5_setCsr_117 : decode cX5_setCsr 117 = .ok (.iload_n 2, 1) := by decide +kernel
theorem dX5_setCsr_118 : decode cX5_setCsr 118 = .ok (.bipush (-3), 2) := by decide +kernel
theorem dX5_setCsr_120 : decode cX5_setCsr 120 = .ok (.iand, 1) := by decide +kernel
theorem dX5_setCsr_121 : decode cX5_setCsr 121 = .ok (.putfield 43, 3) := by decide +kernel
theorem dX5_setCsr_124 : decode cX5_setCsr 124 = .ok (.goto 41, 3) := by decide +kernel
theorem dX5_setCsr_127 : decode cX5_setCsr 127 = .ok (.aload_n 0, 1) := by decide +kernel
theorem dX5_setCsr_128 : decode cX5_setCsr 128 = .ok (.iload_n 2, 1) := by decide +kernel
theorem dX5_setCsr_129 : decode cX5_setCsr 129 = .ok (.putfield 46, 3) := by decide +kernel
theorem dX5_setCsr_132 : decode cX5_setCsr 132 = .ok (.goto 33, 3) := by decide +kernel
theorem dX5_setCsr_135 : decode cX5_setCsr 135 = .ok (.aload_n 0, 1) := by decide +kernel
theorem dX5_setCsr_136 : decode cX5_setCsr 136 = .ok (.iload_n 2, 1) := by decide +kernel
theorem dX5_setCsr_137 : decode cX5_setCsr 137 = .ok (.bipush (-4), 2) := by decide +kernel
theorem dX5_setCsr_139 : decode cX5_setCsr 139 = .ok (.iand, 1) := by decide +kernel
theorem dX5_setCsr_140 : decode cX5_setCsr 140 = .ok (.putfield 49, 3) := by decide +kernel
theorem dX5_setCsr_143 : decode cX5_setCsr 143 = .ok (.goto 22, 3) := by decide +kernel
theorem dX5_setCsr_146 : decode cX5_setCsr 146 = .ok (.aload_n 0, 1) := by decide +kernel
theorem dX5_setCsr_147 : decode cX5_setCsr 147 = .ok (.iload_n 2, 1) := by decide +kernel
theorem dX5_setCsr_148 : decode cX5_setCsr 148 = .ok (.ldc 94, 2) := by decide +kernel
theorem dX5_setCsr_150 : decode cX5_setCsr 150 = .ok (.iand, 1) := by decide +kernel
theorem dX5_setCsr_151 : decode cX5_setCsr 151 = .ok (.putfield 52, 3) := by decide +kernel
theorem dX5_setCsr_154 : decode cX5_setCsr 154 = .ok (.goto 11, 3) := by decide +kernel
theorem dX5_setCsr_157 : decode cX5_setCsr 157 = .ok (.aload_n 0, 1) := by decide +kernel
theorem dX5_setCsr_158 : decode cX5_setCsr 158 = .ok (.iload_n 2, 1) := by decide +kernel
theorem dX5_setCsr_159 : decode cX5_setCsr 159 = .ok (.putfield 55, 3) := by decide +kernel
theorem dX5_setCsr_162 : decode cX5_setCsr 162 = .ok (.goto 3, 3) := by decide +kernel
theorem dX5_setCsr_165 : decode cX5_setCsr 165 = .ok (.return_, 1) := by decide +kernel
theorem dX5_trap_0 : decode cX5_trap 0 = .ok (.aload_n 0, 1) := by decide +kernel
theorem dX5_trap_1 : decode cX5_trap 1 = .ok (.aload_n 0, 1) := by decide +kernel
theorem dX5_trap_2 : decode cX5_trap 2 = .ok (.getfield 30, 3) := by decide +kernel
theorem dX5_trap_5 : decode cX5_trap 5 = .ok (.putfield 49, 3) := by decide +kernel
theorem dX5_trap_8 : decode cX5_trap 8 = .ok (.aload_n 0, 1) := by decide +kernel
theorem dX5_trap_9 : decode cX5_trap 9 = .ok (.iload_n 1, 1) := by decide +kernel
theorem dX5_trap_10 : decode cX5_trap 10 = .ok (.putfield 52, 3) := by decide +kernel
theorem dX5_trap_13 : decode cX5_trap 13 = .ok (.aload_n 0, 1) := by decide +kernel
theorem dX5_trap_14 : decode cX5_trap 14 = .ok (.iload_n 2, 1) := by decide +kernel
theorem dX5_trap_15 : decode cX5_trap 15 = .ok (.putfield 55, 3) := by decide +kernel
theorem dX5_trap_18 : decode cX5_trap 18 = .ok (.aload_n 0, 1) := by decide +kernel
theorem dX5_trap_19 : decode cX5_trap 19 = .ok (.aload_n 0, 1) := by decide +kernel
theorem dX5_trap_20 : decode cX5_trap 20 = .ok (.getfield 33, 3) := by decide +kernel
theorem dX5_trap_23 : decode cX5_trap 23 = .ok (.putfield 37, 3) := by decide +kernel
theorem dX5_trap_26 : decode cX5_trap 26 = .ok (.aload_n 0, 1) := by decide +kernel
theorem dX5_trap_27 : decode cX5_trap 27 = .ok (.iconst 0, 1) := by decide +kernel
theorem dX5_trap_28 : decode cX5_trap 28 = .ok (.putfield 33, 3) := by decide +kernel
theorem dX5_trap_31 : decode cX5_trap 31 = .ok (.aload_n 0, 1) := by decide +kernel
theorem dX5_trap_32 : decode cX5_trap 32 = .ok (.aload_n 0, 1) := by decide +kernel
theorem dX5_trap_33 : decode cX5_trap 33 = .ok (.getfield 43, 3) := by decide +kernel
theorem dX5_trap_36 : decode cX5_trap 36 = .ok (.bipush (-4), 2) := by decide +kernel
theorem dX5_trap_38 : decode cX5_trap 38 = .ok (.iand, 1) := by decide +kernel
theorem dX5_trap_39 : decode cX5_trap 39 = .ok (.putfield 30, 3) := by decide +kernel
theorem dX5_trap_42 : decode cX5_trap 42 = .ok (.iconst 1, 1) := by decide +kernel
theorem dX5_trap_43 : decode cX5_trap 43 = .ok (.ireturn, 1) := by decide +kernel
theorem dX5_step_0 : decode cX5_step 0 = .ok (.aload_n 0, 1) := by decide +kernel
theorem dX5_step_1 : decode cX5_step 1 = .ok (.aload_n 0, 1) := by decide +kernel
theorem dX5_step_2 : decode cX5_step 2 = .ok (.invokevirtual 95, 3) := by decide +kernel
theorem dX5_step_5 : decode cX5_step 5 = .ok (.putfield 76, 3) := by decide +kernel
theorem dX5_step_8 : decode cX5_step 8 = .ok (.aload_n 0, 1) := by decide +kernel
theorem dX5_step_9 : decode cX5_step 9 = .ok (.aload_n 0, 1) := by decide +kernel
theorem dX5_step_10 : decode cX5_step 10 = .ok (.getfield 76, 3) := by decide +kernel
theorem dX5_step_13 : decode cX5_step 13 = .ok (.ifCond .ne 12, 3) := by decide +kernel
theorem dX5_step_16 : decode cX5_step 16 = .ok (.aload_n 0, 1) := by decide +kernel
theorem dX5_step_17 : decode cX5_step 17 = .ok (.getfield 70, 3) := by decide +kernel
theorem dX5_step_20 : decode cX5_step 20 = .ok (.lconst 1, 1) := by decide +kernel
theorem dX5_step_21 : decode cX5_step 21 = .ok (.ladd, 1) := by decide +kernel
theorem dX5_step_22 : decode cX5_step 22 = .ok (.goto 7, 3) := by decide +kernel
theorem dX5_step_25 : decode cX5_step 25 = .ok (.aload_n 0, 1) := by decide +kernel
theorem dX5_step_26 : decode cX5_step 26 = .ok (.getfield 70, 3) := by decide +kernel
theorem dX5_step_29 : decode cX5_step 29 = .ok (.putfield 70, 3) := by decide +kernel
theorem dX5_step_32 : decode cX5_step 32 = .ok (.aload_n 0, 1) := by decide +kernel
theorem dX5_step_33 : decode cX5_step 33 = .ok (.getfield 76, 3) := by decide +kernel
theorem dX5_step_36 : decode cX5_step 36 = .ok (.ireturn, 1) := by decide +kernel
theorem dX5_once_0 : decode cX5_once 0 = .ok (.aload_n 0, 1) := by decide +kernel
theorem dX5_once_1 : decode cX5_once 1 = .ok (.sipush 836, 3) := by decide +kernel
theorem dX5_once_4 : decode cX5_once 4 = .ok (.invokevirtual 99, 3) := by decide +kernel
theorem dX5_once_7 : decode cX5_once 7 = .ok (.aload_n 0, 1) := by decide +kernel
theorem dX5_once_8 : decode cX5_once 8 = .ok (.getfield 40, 3) := by decide +kernel
theorem dX5_once_11 : decode cX5_once 11 = .ok (.iand, 1) := by decide +kernel
theorem dX5_once_12 : decode cX5_once 12 = .ok (.istore_n 1, 1) := by decide +kernel
theorem dX5_once_13 : decode cX5_once 13 = .ok (.iload_n 1, 1) := by decide +kernel
theorem dX5_once_14 : decode cX5_once 14 = .ok (.sipush 128, 3) := by decide +kernel
theorem dX5_once_17 : decode cX5_once 17 = .ok (.iand, 1) := by decide +kernel
theorem dX5_once_18 : decode cX5_once 18 = .ok (.ifCond .eq 62, 3) := by decide +kernel
theorem dX5_once_21 : decode cX5_once 21 = .ok (.aload_n 0, 1) := by decide +kernel
theorem dX5_once_22 : decode cX5_once 22 = .ok (.getfield 33, 3) := by decide +kernel
theorem dX5_once_25 : decode cX5_once 25 = .ok (.ifCond .eq 55, 3) := by decide +kernel
theorem dX5_once_28 : decode cX5_once 28 = .ok (.aload_n 0, 1) := by decide +kernel
theorem dX5_once_29 : decode cX5_once 29 = .ok (.ldc 103, 2) := by decide +kernel
theorem dX5_once_31 : decode cX5_once 31 = .ok (.iconst 0, 1) := by decide +kernel
theorem dX5_once_32 : decode cX5_once 32 = .ok (.invokevirtual 104, 3) := by decide +kernel
theorem dX5_once_35 : decode cX5_once 35 = .ok (.istore_n 2, 1) := by decide +kernel
theorem dX5_once_36 : decode cX5_once 36 = .ok (.aload_n 0, 1) := by decide +kernel
theorem dX5_once_37 : decode cX5_once 37 = .ok (.aload_n 0, 1) := by decide +kernel
theorem dX5_once_38 : decode cX5_once 38 = .ok (.getfield 43, 3) := by decide +kernel
theorem dX5_once_41 : decode cX5_once 41 = .ok (.iconst 1, 1) := by decide +kernel
theorem dX5_once_42 : decode cX5_once 42 = .ok (.iand, 1) := by decide +kernel
theorem dX5_once_43 : decode cX5_once 43 = .ok (.iconst 1, 1) := by decide +kernel
theorem dX5_once_44 : decode cX5_once 44 = .ok (.if_icmp .ne 13, 3) := by decide +kernel
theorem dX5_once_47 : decode cX5_once 47 = .ok (.aload_n 0, 1) := by decide +kernel
theorem dX5_once_48 : decode cX5_once 48 = .ok (.getfield 30, 3) := by decide +kernel
theorem dX5_once_51 : decode cX5_once 51 = .ok (.bipush 28, 2) := by decide +kernel
theorem dX5_once_53 : decode cX5_once 53 = .ok (.iadd, 1) := by decide +kernel
theorem dX5_once_54 : decode cX5_once 54 = .ok (.goto 7, 3) := by decide +kernel
theorem dX5_once_57 : decode cX5_once 57 = .ok (.aload_n 0, 1) := by decide +kernel
theorem dX5_once_58 : decode cX5_once 58 = .ok (.getfield 30, 3) := by decide +kernel
theorem dX5_once_61 : decode cX5_once 61 = .ok (.putfield 30, 3) := by decide +kernel
theorem dX5_once_64 : decode cX5_once 64 = .ok (.aload_n 0, 1) := by decide +kernel
theorem dX5_once_65 : decode cX5_once 65 = .ok (.iconst 0, 1) := by decide +kernel
theorem dX5_once_66 : decode cX5_once 66 = .ok (.putfield 73, 3) := by decide +kernel
theorem dX5_once_69 : decode cX5_once 69 = .ok (.iload_n 2, 1) := by decide +kernel
theorem dX5_once_70 : decode cX5_once 70 = .ok (.iconst 1, 1) := by decide +kernel
theorem dX5_once_71 : decode cX5_once 71 = .ok (.if_icmp .ne 7, 3) := by decide +kernel
theorem dX5_once_74 : decode cX5_once 74 = .ok (.iconst 2, 1) := by decide +kernel
theorem dX5_once_75 : decode cX5_once 75 = .ok (.goto 4, 3) := by decide +kernel
theorem dX5_once_78 : decode cX5_once 78 = .ok (.iload_n 2, 1) := by decide +kernel
theorem dX5_once_79 : decode cX5_once 79 = .ok (.ireturn, 1) := by decide +kernel
theorem dX5_once_80 : decode cX5_once 80 = .ok (.aload_n 0, 1) := by decide +kernel
theorem dX5_once_81 : decode cX5_once 81 = .ok (.getfield 73, 3) := by decide +kernel
theorem dX5_once_84 : decode cX5_once 84 = .ok (.ifCond .eq 9, 3) := by decide +kernel
theorem dX5_once_87 : decode cX5_once 87 = .ok (.iload_n 1, 1) := by decide +kernel
theorem dX5_once_88 : decode cX5_once 88 = .ok (.ifCond .ne 5, 3) := by decide +kernel
theorem dX5_once_91 : decode cX5_once 91 = .ok (.iconst 3, 1) := by decide +kernel
theorem dX5_once_92 : decode cX5_once 92 = .ok (.ireturn, 1) := by decide +kernel
theorem dX5_once_93 : decode cX5_once 93 = .ok (.aload_n 0, 1) := by decide +kernel
theorem dX5_once_94 : decode cX5_once 94 = .ok (.getfield 73, 3) := by decide +kernel
theorem dX5_once_97 : decode cX5_once 97 = .ok (.istore_n 2, 1) := by decide +kernel
theorem dX5_once_98 : decode cX5_once 98 = .ok (.aload_n 0, 1) := by decide +kernel
theorem dX5_once_99 : decode cX5_once 99 = .ok (.iconst 0, 1) := by decide +kernel
theorem dX5_once_100 : decode cX5_once 100 = .ok (.putfield 73, 3) := by decide +kernel
theorem dX5_once_103 : decode cX5_once 103 = .ok (.aload_n 0, 1) := by decide +kernel
theorem dX5_once_104 : decode cX5_once 104 = .ok (.invokevirtual 108, 3) := by decide +kernel
theorem dX5_once_107 : decode cX5_once 107 = .ok (.istore_n 3, 1) := by decide +kernel
theorem dX5_once_108 : decode cX5_once 108 = .ok (.aload_n 0, 1) := by decide +kernel
theorem dX5_once_109 : decode cX5_once 109 = .ok (.iload_n 3, 1) := by decide +kernel
theorem dX5_once_110 : decode cX5_once 110 = .ok (.iconst 4, 1) := by decide +kernel
theorem dX5_once_111 : decode cX5_once 111 = .ok (.if_icmp .ne 7, 3) := by decide +kernel
theorem dX5_once_114 : decode cX5_once 114 = .ok (.iload_n 2, 1) := by decide +kernel
theorem dX5_once_115 : decode cX5_once 115 = .ok (.goto 7, 3) := by decide +kernel
theorem dX5_once_118 : decode cX5_once 118 = .ok (.aload_n 0, 1) := by decide +kernel
theorem dX5_once_119 : decode cX5_once 119 = .ok (.getfield 73, 3) := by decide +kernel
theorem dX5_once_122 : decode cX5_once 122 = .ok (.putfield 73, 3) := by decide +kernel
theorem dX5_once_125 : decode cX5_once 125 = .ok (.iload_n 3, 1) := by decide +kernel
theorem dX5_once_126 : decode cX5_once 126 = .ok (.ireturn, 1) := by decide +kernel
theorem dX5_run_0 : decode cX5_run 0 = .ok (.iload_n 1, 1) := by decide +kernel
theorem dX5_run_1 : decode cX5_run 1 = .ok (.ifCond .lt 9, 3) := by decide +kernel
theorem dX5_run_4 : decode cX5_run 4 = .ok (.iload_n 1, 1) := by decide +kernel
theorem dX5_run_5 : decode cX5_run 5 = .ok (.ldc 111, 2) := by decide +kernel
theorem dX5_run_7 : decode cX5_run 7 = .ok (.if_icmp .le 6, 3) := by decide +kernel
theorem dX5_run_10 : decode cX5_run 10 = .ok (.bipush (-2), 2) := by decide +kernel
theorem dX5_run_12 : decode cX5_run 12 = .ok (.ireturn, 1) := by decide +kernel
theorem dX5_run_13 : decode cX5_run 13 = .ok (.iconst 0, 1) := by decide +kernel
theorem dX5_run_14 : decode cX5_run 14 = .ok (.istore_n 2, 1) := by decide +kernel
theorem dX5_run_15 : decode cX5_run 15 = .ok (.iconst 0, 1) := by decide +kernel
theorem dX5_run_16 : decode cX5_run 16 = .ok (.istore_n 3, 1) := by decide +kernel
theorem dX5_run_17 : decode cX5_run 17 = .ok (.iload_n 2, 1) := by decide +kernel
theorem dX5_run_18 : decode cX5_run 18 = .ok (.iload_n 1, 1) := by decide +kernel
theorem dX5_run_19 : decode cX5_run 19 = .ok (.if_icmp .ge 22, 3) := by decide +kernel
theorem dX5_run_22 : decode cX5_run 22 = .ok (.iload_n 3, 1) := by decide +kernel
theorem dX5_run_23 : decode cX5_run 23 = .ok (.ifCond .ne 18, 3) := by decide +kernel
theorem dX5_run_26 : decode cX5_run 26 = .ok (.aload_n 0, 1) := by decide +kernel
theorem dX5_run_27 : decode cX5_run 27 = .ok (.invokevirtual 112, 3) := by decide +kernel
theorem dX5_run_30 : decode cX5_run 30 = .ok (.istore_n 3, 1) := by decide +kernel
theorem dX5_run_31 : decode cX5_run 31 = .ok (.aload_n 0, 1) := by decide +kernel
theorem dX5_run_32 : decode cX5_run 32 = .ok (.invokevirtual 115, 3) := by decide +kernel
theorem dX5_run_35 : decode cX5_run 35 = .ok (.iinc 2 1, 3) := by decide +kernel
theorem dX5_run_38 : decode cX5_run 38 = .ok (.goto (-21), 3) := by decide +kernel
theorem dX5_run_41 : decode cX5_run 41 = .ok (.iload_n 2, 1) := by decide +kernel
theorem dX5_run_42 : decode cX5_run 42 = .ok (.ireturn, 1) := by decide +kernel
theorem dX5_tick_0 : decode cX5_tick 0 = .ok (.aload_n 0, 1) := by decide +kernel
theorem dX5_tick_1 : decode cX5_tick 1 = .ok (.dup, 1) := by decide +kernel
theorem dX5_tick_2 : decode cX5_tick 2 = .ok (.getfield 58, 3) := by decide +kernel
theorem dX5_tick_5 : decode cX5_tick 5 = .ok (.lconst 1, 1) := by decide +kernel
theorem dX5_tick_6 : decode cX5_tick 6 = .ok (.ladd, 1) := by decide +kernel
theorem dX5_tick_7 : decode cX5_tick 7 = .ok (.putfield 58, 3) := by decide +kernel
theorem dX5_tick_10 : decode cX5_tick 10 = .ok (.return_, 1) := by decide +kernel
theorem dX5_immediate_0 : decode cX5_immediate 0 = .ok (.aload_n 0, 1) := by decide +kernel
theorem dX5_immediate_1 : decode cX5_immediate 1 = .ok (.getfield 118, 3) := by decide +kernel
theorem dX5_immediate_4 : decode cX5_immediate 4 = .ok (.bipush 20, 2) := by decide +kernel
theorem dX5_immediate_6 : decode cX5_immediate 6 = .ok (.ishr, 1) := by decide +kernel
theorem dX5_immediate_7 : decode cX5_immediate 7 = .ok (.ireturn, 1) := by decide +kernel
theorem dX5_instruction_0 : decode cX5_instruction 0 = .ok (.aload_n 0, 1) := by decide +kernel
theorem dX5_instruction_1 : decode cX5_instruction 1 = .ok (.aload_n 0, 1) := by decide +kernel
theorem dX5_instruction_2 : decode cX5_instruction 2 = .ok (.getfield 30, 3) := by decide +kernel
theorem dX5_instruction_5 : decode cX5_instruction 5 = .ok (.iconst 4, 1) := by decide +kernel
theorem dX5_instruction_6 : decode cX5_instruction 6 = .ok (.invokevirtual 79, 3) := by decide +kernel
theorem dX5_instruction_9 : decode cX5_instruction 9 = .ok (.ifCond .ne 13, 3) := by decide +kernel
theorem dX5_instruction_12 : decode cX5_instruction 12 = .ok (.aload_n 0, 1) := by decide +kernel
theorem dX5_instruction_13 : decode cX5_instruction 13 = .ok (.iconst 1, 1) := by decide +kernel
theorem dX5_instruction_14 : decode cX5_instruction 14 = .ok (.aload_n 0, 1) := by decide +kernel
theorem dX5_instruction_15 : decode cX5_instruction 15 = .ok (.getfield 30, 3) := by decide +kernel
theorem dX5_instruction_18 : decode cX5_instruction 18 = .ok (.invokevirtual 104, 3) := by decide +kernel
theorem dX5_instruction_21 : decode cX5_instruction 21 = .ok (.ireturn, 1) := by decide +kernel
theorem dX5_instruction_22 : decode cX5_instruction 22 = .ok (.aload_n 0, 1) := by decide +kernel
theorem dX5_instruction_23 : decode cX5_instruction 23 = .ok (.aload_n 0, 1) := by decide +kernel
theorem dX5_instruction_24 : decode cX5_instruction 24 = .ok (.aload_n 0, 1) := by decide +kernel
theorem dX5_instruction_25 : decode cX5_instruction 25 = .ok (.getfield 30, 3) := by decide +kernel
theorem dX5_instruction_28 : decode cX5_instruction 28 = .ok (.iconst 4, 1) := by decide +kernel
theorem dX5_instruction_29 : decode cX5_instruction 29 = .ok (.invokevirtual 121, 3) := by decide +kernel
theorem dX5_instruction_32 : decode cX5_instruction 32 = .ok (.putfield 118, 3) := by decide +kernel
theorem dX5_instruction_35 : decode cX5_instruction 35 = .ok (.aload_n 0, 1) := by decide +kernel
theorem dX5_instruction_36 : decode cX5_instruction 36 = .ok (.aload_n 0, 1) := by decide +kernel
theorem dX5_instruction_37 : decode cX5_instruction 37 = .ok (.getfield 118, 3) := by decide +kernel
theorem dX5_instruction_40 : decode cX5_instruction 40 = .ok (.bipush 7, 2) := by decide +kernel
theorem dX5_instruction_42 : decode cX5_instruction 42 = .ok (.ishr, 1) := by decide +kernel
theorem dX5_instruction_43 : decode cX5_instruction 43 = .ok (.bipush 31, 2) := by decide +kernel
theorem dX5_instruction_45 : decode cX5_instruction 45 = .ok (.iand, 1) := by decide +kernel
theorem dX5_instruction_46 : decode cX5_instruction 46 = .ok (.putfield 124, 3) := by decide +kernel
theorem dX5_instruction_49 : decode cX5_instruction 49 = .ok (.aload_n 0, 1) := by decide +kernel
theorem dX5_instruction_50 : decode cX5_instruction 50 = .ok (.aload_n 0, 1) := by decide +kernel
theorem dX5_instruction_51 : decode cX5_instruction 51 = .ok (.getfield 118, 3) := by decide +kernel
theorem dX5_instruction_54 : decode cX5_instruction 54 = .ok (.bipush 12, 2) := by decide +kernel
theorem dX5_instruction_56 : decode cX5_instruction 56 = .ok (.ishr, 1) := by decide +kernel
theorem dX5_instruction_57 : decode cX5_instruction 57 = .ok (.bipush 7, 2) := by decide +kernel
theorem dX5_instruction_59 : decode cX5_instruction 59 = .ok (.iand, 1) := by decide +kernel
theorem dX5_instruction_60 : decode cX5_instruction 60 = .ok (.putfield 127, 3) := by decide +kernel
theorem dX5_instruction_63 : decode cX5_instruction 63 = .ok (.aload_n 0, 1) := by decide +kernel
theorem dX5_instruction_64 : decode cX5_instruction 64 = .ok (.aload_n 0, 1) := by decide +kernel
theorem dX5_instruction_65 : decode cX5_instruction 65 = .ok (.getfield 118, 3) := by decide +kernel
theorem dX5_instruction_68 : decode cX5_instruction 68 = .ok (.bipush 15, 2) := by decide +kernel
theorem dX5_instruction_70 : decode cX5_instruction 70 = .ok (.ishr, 1) := by decide +kernel
theorem dX5_instruction_71 : decode cX5_instruction 71 = .ok (.bipush 31, 2) := by decide +kernel
theorem dX5_instruction_73 : decode cX5_instruction 73 = .ok (.iand, 1) := by decide +kernel
theorem dX5_instruction_74 : decode cX5_instruction 74 = .ok (.putfield 130, 3) := by decide +kernel
theorem dX5_instruction_77 : decode cX5_instruction 77 = .ok (.aload_n 0, 1) := by decide +kernel
theorem dX5_instruction_78 : decode cX5_instruction 78 = .ok (.aload_n 0, 1) := by decide +kernel
theorem dX5_instruction_79 : decode cX5_instruction 79 = .ok (.getfield 118, 3) := by decide +kernel
theorem dX5_instruction_82 : decode cX5_instruction 82 = .ok (.bipush 20, 2) := by decide +kernel
theorem dX5_instruction_84 : decode cX5_instruction 84 = .ok (.ishr, 1) := by decide +kernel
theorem dX5_instruction_85 : decode cX5_instruction 85 = .ok (.bipush 31, 2) := by decide +kernel
theorem dX5_instruction_87 : decode cX5_instruction 87 = .ok (.iand, 1) := by decide +kernel
theorem dX5_instruction_88 : decode cX5_instruction 88 = .ok (.putfield 133, 3) := by decide +kernel
theorem dX5_instruction_91 : decode cX5_instruction 91 = .ok (.aload_n 0, 1) := by decide +kernel
theorem dX5_instruction_92 : decode cX5_instruction 92 = .ok (.aload_n 0, 1) := by decide +kernel
theorem dX5_instruction_93 : decode cX5_instruction 93 = .ok (.getfield 118, 3) := by decide +kernel
theorem dX5_instruction_96 : decode cX5_instruction 96 = .ok (.bipush 25, 2) := by decide +kernel
theorem dX5_instruction_98 : decode cX5_instruction 98 = .ok (.ishr, 1) := by decide +kernel
theorem dX5_instruction_99 : decode cX5_instruction 99 = .ok (.bipush 127, 2) := by decide +kernel
theorem dX5_instruction_101 : decode cX5_instruction 101 = .ok (.iand, 1) := by decide +kernel
theorem dX5_instruction_102 : decode cX5_instruction 102 = .ok (.putfield 136, 3) := by decide +kernel
theorem dX5_instruction_105 : decode cX5_instruction 105 = .ok (.aload_n 0, 1) := by decide +kernel
theorem dX5_instruction_106 : decode cX5_instruction 106 = .ok (.aload_n 0, 1) := by decide +kernel
theorem dX5_instruction_107 : decode cX5_instruction 107 = .ok (.getfield 30, 3) := by decide +kernel
theorem dX5_instruction_110 : decode cX5_instruction 110 = .ok (.iconst 4, 1) := by decide +kernel
theorem dX5_instruction_111 : decode cX5_instruction 111 = .ok (.iadd, 1) := by decide +kernel
theorem dX5_instruction_112 : decode cX5_instruction 112 = .ok (.putfield 139, 3) := by decide +kernel
theorem dX5_instruction_115 : decode cX5_instruction 115 = .ok (.aload_n 0, 1) := by decide +kernel
theorem dX5_instruction_116 : decode cX5_instruction 116 = .ok (.invokevirtual 142, 3) := by decide +kernel
theorem dX5_instruction_119 : decode cX5_instruction 119 = .ok (.istore_n 1, 1) := by decide +kernel
theorem dX5_instruction_120 : decode cX5_instruction 120 = .ok (.iload_n 1, 1) := by decide +kernel
theorem dX5_instruction_121 : decode cX5_instruction 121 = .ok (.iconst (-1), 1) := by decide +kernel
theorem dX5_instruction_122 : decode cX5_instruction 122 = .ok (.if_icmp .eq 5, 3) := by decide +kernel
theorem dX5_instruction_125 : decode cX5_instruction 125 = .ok (.iload_n 1, 1) := by decide +kernel
theorem dX5_instruction_126 : decode cX5_instruction 126 = .ok (.ireturn, 1) := by decide +kernel
theorem dX5_instruction_127 : decode cX5_instruction 127 = .ok (.aload_n 0, 1) := by decide +kernel
theorem dX5_instruction_128 : decode cX5_instruction 128 = .ok (.aload_n 0, 1) := by decide +kernel
theorem dX5_instruction_129 : decode cX5_instruction 129 = .ok (.getfield 139, 3) := by decide +kernel
theorem dX5_instruction_132 : decode cX5_instruction 132 = .ok (.putfield 30, 3) := by decide +kernel
theorem dX5_instruction_135 : decode cX5_instruction 135 = .ok (.iconst 0, 1) := by decide +kernel
theorem dX5_instruction_136 : decode cX5_instruction 136 = .ok (.ireturn, 1) := by decide +kernel
theorem dX5_illegal_0 : decode cX5_illegal 0 = .ok (.aload_n 0, 1) := by decide +kernel
theorem dX5_illegal_1 : decode cX5_illegal 1 = .ok (.iconst 2, 1) := by decide +kernel
theorem dX5_illegal_2 : decode cX5_illegal 2 = .ok (.aload_n 0, 1) := by decide +kernel
theorem dX5_illegal_3 : decode cX5_illegal 3 = .ok (.getfield 118, 3) := by decide +kernel
theorem dX5_illegal_6 : decode cX5_illegal 6 = .ok (.invokevirtual 104, 3) := by decide +kernel
theorem dX5_illegal_9 : decode cX5_illegal 9 = .ok (.ireturn, 1) := by decide +kernel
theorem dX5_become_0 : decode cX5_become 0 = .ok (.aload_n 0, 1) := by decide +kernel
theorem dX5_become_1 : decode cX5_become 1 = .ok (.getfield 14, 3) := by decide +kernel
theorem dX5_become_4 : decode cX5_become 4 = .ok (.aload_n 0, 1) := by decide +kernel
theorem dX5_become_5 : decode cX5_become 5 = .ok (.getfield 124, 3) := by decide +kernel
theorem dX5_become_8 : decode cX5_become 8 = .ok (.aload_n 0, 1) := by decide +kernel
theorem dX5_become_9 : decode cX5_become 9 = .ok (.getfield 124, 3) := by decide +kernel
theorem dX5_become_12 : decode cX5_become 12 = .ok (.ifCond .ne 7, 3) := by decide +kernel
theorem dX5_become_15 : decode cX5_become 15 = .ok (.iconst 0, 1) := by decide +kernel
theorem dX5_become_16 : decode cX5_become 16 = .ok (.goto 4, 3) := by decide +kernel
theorem dX5_become_19 : decode cX5_become 19 = .ok (.iload_n 1, 1) := by decide +kernel
theorem dX5_become_20 : decode cX5_become 20 = .ok (.iastore, 1) := by decide +kernel
theorem dX5_become_21 : decode cX5_become 21 = .ok (.iconst (-1), 1) := by decide +kernel
theorem dX5_become_22 : decode cX5_become 22 = .ok (.ireturn, 1) := by decide +kernel
theorem dX5_goTo_0 : decode cX5_goTo 0 = .ok (.iload_n 1, 1) := by decide +kernel
theorem dX5_goTo_1 : decode cX5_goTo 1 = .ok (.iconst 3, 1) := by decide +kernel
theorem dX5_goTo_2 : decode cX5_goTo 2 = .ok (.iand, 1) := by decide +kernel
theorem dX5_goTo_3 : decode cX5_goTo 3 = .ok (.ifCond .eq 10, 3) := by decide +kernel
theorem dX5_goTo_6 : decode cX5_goTo 6 = .ok (.aload_n 0, 1) := by decide +kernel
theorem dX5_goTo_7 : decode cX5_goTo 7 = .ok (.iconst 0, 1) := by decide +kernel
theorem dX5_goTo_8 : decode cX5_goTo 8 = .ok (.iload_n 1, 1) := by decide +kernel
theorem dX5_goTo_9 : decode cX5_goTo 9 = .ok (.invokevirtual 104, 3) := by decide +kernel
theorem dX5_goTo_12 : decode cX5_goTo 12 = .ok (.ireturn, 1) := by decide +kernel
theorem dX5_goTo_13 : decode cX5_goTo 13 = .ok (.iload_n 2, 1) := by decide +kernel
theorem dX5_goTo_14 : decode cX5_goTo 14 = .ok (.ifCond .eq 16, 3) := by decide +kernel
theorem dX5_goTo_17 : decode cX5_goTo 17 = .ok (.aload_n 0, 1) := by decide +kernel
theorem dX5_goTo_18 : decode cX5_goTo 18 = .ok (.aload_n 0, 1) := by decide +kernel
theorem dX5_goTo_19 : decode cX5_goTo 19 = .ok (.getfield 30, 3) := by decide +kernel
theorem dX5_goTo_22 : decode cX5_goTo 22 = .ok (.iconst 4, 1) := by decide +kernel
theorem dX5_goTo_23 : decode cX5_goTo 23 = .ok (.iadd, 1) := by decide +kernel
theorem dX5_goTo_24 : decode cX5_goTo 24 = .ok (.invokevirtual 145, 3) := by decide +kernel
theorem dX5_goTo_27 : decode cX5_goTo 27 = .ok (.goto 4, 3) := by decide +kernel
theorem dX5_goTo_30 : decode cX5_goTo 30 = .ok (.iconst (-1), 1) := by decide +kernel
theorem dX5_goTo_31 : decode cX5_goTo 31 = .ok (.istore_n 3, 1) := by decide +kernel
theorem dX5_goTo_32 : decode cX5_goTo 32 = .ok (.aload_n 0, 1) := by decide +kernel
theorem dX5_goTo_33 : decode cX5_goTo 33 = .ok (.iload_n 1, 1) := by decide +kernel
theorem dX5_goTo_34 : decode cX5_goTo 34 = .ok (.putfield 139, 3) := by decide +kernel
theorem dX5_goTo_37 : decode cX5_goTo 37 = .ok (.iload_n 3, 1) := by decide +kernel
theorem dX5_goTo_38 : decode cX5_goTo 38 = .ok (.ireturn, 1) := by decide +kernel
theorem dX5_work_0 : decode cX5_work 0 = .ok (.aload_n 0, 1) := by decide +kernel
theorem dX5_work_1 : decode cX5_work 1 = .ok (.getfield 118, 3) := by decide +kernel
theorem dX5_work_4 : decode cX5_work 4 = .ok (.bipush 127, 2) := by decide +kernel
theorem dX5_work_6 : decode cX5_work 6 = .ok (.iand, 1) := by decide +kernel
theorem dX5_work_7 : decode cX5_work 7 = .ok (.lookupswitch 287 #[(3, 228), (15, 252), (19, 238), (23, 110), (35, 233), (51, 247), (55, 97), (99, 223), (103, 186), (111, 128), (115, 268)], 97) := by decide +kernel
theorem dX5_work_104 : decode cX5_work 104 = .ok (.aload_n 0, 1) := by decide +kernel
theorem dX5_work_105 : decode cX5_work 105 = .ok (.aload_n 0, 1) := by decide +kernel
theorem dX5_work_106 : decode cX5_work 106 = .ok (.getfield 118, 3) := by decide +kernel
theorem dX5_work_109 : decode cX5_work 109 = .ok (.sipush (-4096), 3) := by decide +kernel
theorem dX5_work_112 : decode cX5_work 112 = .ok (.iand, 1) := by decide +kernel
theorem dX5_work_113 : decode cX5_work 113 = .ok (.invokevirtual 145, 3) := by decide +kernel
theorem dX5_work_116 : decode cX5_work 116 = .ok (.ireturn, 1) := by decide +kernel
theorem dX5_work_117 : decode cX5_work 117 = .ok (.aload_n 0, 1) := by decide +kernel
theorem dX5_work_118 : decode cX5_work 118 = .ok (.aload_n 0, 1) := by decide +kernel
theorem dX5_work_119 : decode cX5_work 119 = .ok (.getfield 30, 3) := by decide +kernel
theorem dX5_work_122 : decode cX5_work 122 = .ok (.aload_n 0, 1) := by decide +kernel
theorem dX5_work_123 : decode cX5_work 123 = .ok (.getfield 118, 3) := by decide +kernel
theorem dX5_work_126 : decode cX5_work 126 = .ok (.sipush (-4096), 3) := by decide +kernel
theorem dX5_work_129 : decode cX5_work 129 = .ok (.iand, 1) := by decide +kernel
theorem dX5_work_130 : decode cX5_work 130 = .ok (.iadd, 1) := by decide +kernel
theorem dX5_work_131 : decode cX5_work 131 = .ok (.invokevirtual 145, 3) := by decide +kernel
theorem dX5_work_134 : decode cX5_work 134 = .ok (.ireturn, 1) := by decide +kernel
theorem dX5_work_135 : decode cX5_work 135 = .ok (.aload_n 0, 1) := by decide +kernel
theorem dX5_work_136 : decode cX5_work 136 = .ok (.getfield 118, 3) := by decide +kernel
theorem dX5_work_139 : decode cX5_work 139 = .ok (.bipush 31, 2) := by decide +kernel
theorem dX5_work_141 : decode cX5_work 141 = .ok (.ishr, 1) := by decide +kernel
theorem dX5_work_142 : decode cX5_work 142 = .ok (.bipush 20, 2) := by decide +kernel
theorem dX5_work_144 : decode cX5_work 144 = .ok (.ishl, 1) := by decide +kernel
theorem dX5_work_145 : decode cX5_work 145 = .ok (.aload_n 0, 1) := by decide +kernel
theorem dX5_work_146 : decode cX5_work 146 = .ok (.getfield 118, 3) := by decide +kernel
theorem dX5_work_149 : decode cX5_work 149 = .ok (.ldc 148, 2) := by decide +kernel
theorem dX5_work_151 : decode cX5_work 151 = .ok (.iand, 1) := by decide +kernel
theorem dX5_work_152 : decode cX5_work 152 = .ok (.ior, 1) := by decide +kernel
theorem dX5_work_153 : decode cX5_work 153 = .ok (.aload_n 0, 1) := by decide +kernel
theorem dX5_work_154 : decode cX5_work 154 = .ok (.getfield 118, 3) := by decide +kernel
theorem dX5_work_157 : decode cX5_work 157 = .ok (.bipush 20, 2) := by decide +kernel
theorem dX5_work_159 : decode cX5_work 159 = .ok (.ishr, 1) := by decide +kernel
theorem dX5_work_160 : decode cX5_work 160 = .ok (.iconst 1, 1) := by decide +kernel
theorem dX5_work_161 : decode cX5_work 161 = .ok (.iand, 1) := by decide +kernel
theorem dX5_work_162 : decode cX5_work 162 = .ok (.bipush 11, 2) := by decide +kernel
theorem dX5_work_164 : decode cX5_work 164 = .ok (.ishl, 1) := by decide +kernel
theorem dX5_work_165 : decode cX5_work 165 = .ok (.ior, 1) := by decide +kernel
theorem dX5_work_166 : decode cX5_work 166 = .ok (.aload_n 0, 1) := by decide +kernel
theorem dX5_work_167 : decode cX5_work 167 = .ok (.getfield 118, 3) := by decide +kernel
theorem dX5_work_170 : decode cX5_work 170 = .ok (.bipush 21, 2) := by decide +kernel
theorem dX5_work_172 : decode cX5_work 172 = .ok (.ishr, 1) := by decide +kernel
theorem dX5_work_173 : decode cX5_work 173 = .ok (.sipush 1023, 3) := by decide +kernel
theorem dX5_work_176 : decode cX5_work 176 = .ok (.iand, 1) := by decide +kernel
theorem dX5_work_177 : decode cX5_work 177 = .ok (.iconst 1, 1) := by decide +kernel
theorem dX5_work_178 : decode cX5_work 178 = .ok (.ishl, 1) := by decide +kernel
theorem dX5_work_179 : decode cX5_work 179 = .ok (.ior, 1) := by decide +kernel
theorem dX5_work_180 : decode cX5_work 180 = .ok (.istore_n 1, 1) := by decide +kernel
theorem dX5_work_181 : decode cX5_work 181 = .ok (.aload_n 0, 1) := by decide +kernel
theorem dX5_work_182 : decode cX5_work 182 = .ok (.aload_n 0, 1) := by decide +kernel
theorem dX5_work_183 : decode cX5_work 183 = .ok (.getfield 30, 3) := by decide +kernel
theorem dX5_work_186 : decode cX5_work 186 = .ok (.iload_n 1, 1) := by decide +kernel
theorem dX5_work_187 : decode cX5_work 187 = .ok (.iadd, 1) := by decide +kernel
theorem dX5_work_188 : decode cX5_work 188 = .ok (.iconst 1, 1) := by decide +kernel
theorem dX5_work_189 : decode cX5_work 189 = .ok (.invokevirtual 149, 3) := by decide +kernel
theorem dX5_work_192 : decode cX5_work 192 = .ok (.ireturn, 1) := by decide +kernel
theorem dX5_work_193 : decode cX5_work 193 = .ok (.aload_n 0, 1) := by decide +kernel
theorem dX5_work_194 : decode cX5_work 194 = .ok (.getfield 127, 3) := by decide +kernel
theorem dX5_work_197 : decode cX5_work 197 = .ok (.ifCond .ne 28, 3) := by decide +kernel
theorem dX5_work_200 : decode cX5_work 200 = .ok (.aload_n 0, 1) := by decide +kernel
theorem dX5_work_201 : decode cX5_work 201 = .ok (.aload_n 0, 1) := by decide +kernel
theorem dX5_work_202 : decode cX5_work 202 = .ok (.getfield 14, 3) := by decide +kernel
theorem dX5_work_205 : decode cX5_work 205 = .ok (.aload_n 0, 1) := by decide +kernel
theorem dX5_work_206 : decode cX5_work 206 = .ok (.getfield 130, 3) := by decide +kernel
theorem dX5_work_209 : decode cX5_work 209 = .ok (.iaload, 1) := by decide +kernel
theorem dX5_work_210 : decode cX5_work 210 = .ok (.aload_n 0, 1) := by decide +kernel
theorem dX5_work_211 : decode cX5_work 211 = .ok (.invokevirtual 153, 3) := by decide +kernel
theorem dX5_work_214 : decode cX5_work 214 = .ok (.iadd, 1) := by decide +kernel
theorem dX5_work_215 : decode cX5_work 215 = .ok (.bipush (-2), 2) := by decide +kernel
theorem dX5_work_217 : decode cX5_work 217 = .ok (.iand, 1) := by decide +kernel
theorem dX5_work_218 : decode cX5_work 218 = .ok (.iconst 1, 1) := by decide +kernel
theorem dX5_work_219 : decode cX5_work 219 = .ok (.invokevirtual 149, 3) := by decide +kernel
theorem dX5_work_222 : decode cX5_work 222 = .ok (.goto 7, 3) := by decide +kernel
theorem dX5_work_225 : decode cX5_work 225 = .ok (.aload_n 0, 1) := by decide +kernel
theorem dX5_work_226 : decode cX5_work 226 = .ok (.invokevirtual 156, 3) := by decide +kernel
theorem dX5_work_229 : decode cX5_work 229 = .ok (.ireturn, 1) := by decide +kernel
theorem dX5_work_230 : decode cX5_work 230 = .ok (.aload_n 0, 1) := by decide +kernel
theorem dX5_work_231 : decode cX5_work 231 = .ok (.invokevirtual 159, 3) := by decide +kernel
theorem dX5_work_234 : decode cX5_work 234 = .ok (.ireturn, 1) := by decide +kernel
theorem dX5_work_235 : decode cX5_work 235 = .ok (.aload_n 0, 1) := by decide +kernel
theorem dX5_work_236 : decode cX5_work 236 = .ok (.invokevirtual 162, 3) := by decide +kernel
theorem dX5_work_239 : decode cX5_work 239 = .ok (.ireturn, 1) := by decide +kernel
theorem dX5_work_240 : decode cX5_work 240 = .ok (.aload_n 0, 1) := by decide +kernel
theorem dX5_work_241 : decode cX5_work 241 = .ok (.invokevirtual 165, 3) := by decide +kernel
theorem dX5_work_244 : decode cX5_work 244 = .ok (.ireturn, 1) := by decide +kernel
theorem dX5_work_245 : decode cX5_work 245 = .ok (.aload_n 0, 1) := by decide +kernel
theorem dX5_work_246 : decode cX5_work 246 = .ok (.aload_n 0, 1) := by decide +kernel
theorem dX5_work_247 : decode cX5_work 247 = .ok (.invokevirtual 153, 3) := by decide +kernel
theorem dX5_work_250 : decode cX5_work 250 = .ok (.invokevirtual 168, 3) := by decide +kernel
theorem dX5_work_253 : decode cX5_work 253 = .ok (.ireturn, 1) := by decide +kernel
theorem dX5_work_254 : decode cX5_work 254 = .ok (.aload_n 0, 1) := by decide +kernel
theorem dX5_work_255 : decode cX5_work 255 = .ok (.invokevirtual 171, 3) := by decide +kernel
theorem dX5_work_258 : decode cX5_work 258 = .ok (.ireturn, 1) := by decide +kernel
theorem dX5_work_259 : decode cX5_work 259 = .ok (.aload_n 0, 1) := by decide +kernel
theorem dX5_work_260 : decode cX5_work 260 = .ok (.getfield 127, 3) := by decide +kernel
theorem dX5_work_263 : decode cX5_work 263 = .ok (.ifCond .ne 7, 3) := by decide +kernel
theorem dX5_work_266 : decode cX5_work 266 = .ok (.iconst (-1), 1) := by decide +kernel
theorem dX5_work_267 : decode cX5_work 267 = .ok (.goto 7, 3) := by decide +kernel
theorem dX5_work_270 : decode cX5_work 270 = .ok (.aload_n 0, 1) := by decide +kernel
theorem dX5_work_271 : decode cX5_work 271 = .ok (.invokevirtual 156, 3) := by decide +kernel
theorem dX5_work_274 : decode cX5_work 274 = .ok (.ireturn, 1) := by decide +kernel
theorem dX5_work_275 : decode cX5_work 275 = .ok (.aload_n 0, 1) := by decide +kernel
theorem dX5_work_276 : decode cX5_work 276 = .ok (.getfield 127, 3) := by decide +kernel
theorem dX5_work_279 : decode cX5_work 279 = .ok (.ifCond .ne 10, 3) := by decide +kernel
theorem dX5_work_282 : decode cX5_work 282 = .ok (.aload_n 0, 1) := by decide +kernel
theorem dX5_work_283 : decode cX5_work 283 = .ok (.invokevirtual 174, 3) := by decide +kernel
theorem dX5_work_286 : decode cX5_work 286 = .ok (.goto 7, 3) := by decide +kernel
theorem dX5_work_289 : decode cX5_work 289 = .ok (.aload_n 0, 1) := by decide +kernel
theorem dX5_work_290 : decode cX5_work 290 = .ok (.invokevirtual 177, 3) := by decide +kernel
theorem dX5_work_293 : decode cX5_work 293 = .ok (.ireturn, 1) := by decide +kernel
theorem dX5_work_294 : decode cX5_work 294 = .ok (.aload_n 0, 1) := by decide +kernel
theorem dX5_work_295 : decode cX5_work 295 = .ok (.invokevirtual 156, 3) := by decide +kernel
theorem dX5_work_298 : decode cX5_work 298 = .ok (.ireturn, 1) := by decide +kernel
theorem dX5_isBelow_0 : decode cX5_isBelow 0 = .ok (.iload_n 0, 1) := by decide +kernel
theorem dX5_isBelow_1 : decode cX5_isBelow 1 = .ok (.ldc 180, 2) := by decide +kernel
theorem dX5_isBelow_3 : decode cX5_isBelow 3 = .ok (.ixor, 1) := by decide +kernel
theorem dX5_isBelow_4 : decode cX5_isBelow 4 = .ok (.iload_n 1, 1) := by decide +kernel
theorem dX5_isBelow_5 : decode cX5_isBelow 5 = .ok (.ldc 180, 2) := by decide +kernel
theorem dX5_isBelow_7 : decode cX5_isBelow 7 = .ok (.ixor, 1) := by decide +kernel
theorem dX5_isBelow_8 : decode cX5_isBelow 8 = .ok (.if_icmp .ge 7, 3) := by decide +kernel
theorem dX5_isBelow_11 : decode cX5_isBelow 11 = .ok (.iconst 1, 1) := by decide +kernel
theorem dX5_isBelow_12 : decode cX5_isBelow 12 = .ok (.goto 4, 3) := by decide +kernel
theorem dX5_isBelow_15 : decode cX5_isBelow 15 = .ok (.iconst 0, 1) := by decide +kernel
theorem dX5_isBelow_16 : decode cX5_isBelow 16 = .ok (.ireturn, 1) := by decide +kernel
theorem dX5_branch_0 : decode cX5_branch 0 = .ok (.aload_n 0, 1) := by decide +kernel
theorem dX5_branch_1 : decode cX5_branch 1 = .ok (.getfield 14, 3) := by decide +kernel
theorem dX5_branch_4 : decode cX5_branch 4 = .ok (.aload_n 0, 1) := by decide +kernel
theorem dX5_branch_5 : decode cX5_branch 5 = .ok (.getfield 130, 3) := by decide +kernel
theorem dX5_branch_8 : decode cX5_branch 8 = .ok (.iaload, 1) := by decide +kernel
theorem dX5_branch_9 : decode cX5_branch 9 = .ok (.istore_n 1, 1) := by decide +kernel
theorem dX5_branch_10 : decode cX5_branch 10 = .ok (.aload_n 0, 1) := by decide +kernel
theorem dX5_branch_11 : decode cX5_branch 11 = .ok (.getfield 14, 3) := by decide +kernel
theorem dX5_branch_14 : decode cX5_branch 14 = .ok (.aload_n 0, 1) := by decide +kernel
theorem dX5_branch_15 : decode cX5_branch 15 = .ok (.getfield 133, 3) := by decide +kernel
theorem dX5_branch_18 : decode cX5_branch 18 = .ok (.iaload, 1) := by decide +kernel
theorem dX5_branch_19 : decode cX5_branch 19 = .ok (.istore_n 2, 1) := by decide +kernel
theorem dX5_branch_20 : decode cX5_branch 20 = .ok (.iconst 0, 1) := by decide +kernel
theorem dX5_branch_21 : decode cX5_branch 21 = .ok (.istore_n 3, 1) := by decide +kernel
theorem dX5_branch_22 : decode cX5_branch 22 = .ok (.aload_n 0, 1) := by decide +kernel
theorem dX5_branch_23 : decode cX5_branch 23 = .ok (.getfield 127, 3) := by decide +kernel
theorem dX5_branch_26 : decode cX5_branch 26 = .ok (.tableswitch 128 0 7 #[46, 60, 128, 128, 74, 88, 102, 111], 46) := by decide +kernel
theorem dX5_branch_72 : decode cX5_branch 72 = .ok (.iload_n 1, 1) := by decide +kernel
theorem dX5_branch_73 : decode cX5_branch 73 = .ok (.iload_n 2, 1) := by decide +kernel
theorem dX5_branch_74 : decode cX5_branch 74 = .ok (.if_icmp .ne 7, 3) := by decide +kernel
theorem dX5_branch_77 : decode cX5_branch 77 = .ok (.iconst 1, 1) := by decide +kernel
theorem dX5_branch_78 : decode cX5_branch 78 = .ok (.goto 4, 3) := by decide +kernel
theorem dX5_branch_81 : decode cX5_branch 81 = .ok (.iconst 0, 1) := by decide +kernel
theorem dX5_branch_82 : decode cX5_branch 82 = .ok (.istore_n 3, 1) := by decide +kernel
theorem dX5_branch_83 : decode cX5_branch 83 = .ok (.goto 76, 3) := by decide +kernel
theorem dX5_branch_86 : decode cX5_branch 86 = .ok (.iload_n 1, 1) := by decide +kernel
theorem dX5_branch_87 : decode cX5_branch 87 = .ok (.iload_n 2, 1) := by decide +kernel
theorem dX5_branch_88 : decode cX5_branch 88 = .ok (.if_icmp .eq 7, 3) := by decide +kernel
theorem dX5_branch_91 : decode cX5_branch 91 = .ok (.iconst 1, 1) := by decide +kernel
theorem dX5_branch_92 : decode cX5_branch 92 = .ok (.goto 4, 3) := by decide +kernel
theorem dX5_branch_95 : decode cX5_branch 95 = .ok (.iconst 0, 1) := by decide +kernel
theorem dX5_branch_96 : decode cX5_branch 96 = .ok (.istore_n 3, 1) := by decide +kernel
theorem dX5_branch_97 : decode cX5_branch 97 = .ok (.goto 62, 3) := by decide +kernel
theorem dX5_branch_100 : decode cX5_branch 100 = .ok (.iload_n 1, 1) := by decide +kernel
theorem dX5_branch_101 : decode cX5_branch 101 = .ok (.iload_n 2, 1) := by decide +kernel
theorem dX5_branch_102 : decode cX5_branch 102 = .ok (.if_icmp .ge 7, 3) := by decide +kernel
theorem dX5_branch_105 : decode cX5_branch 105 = .ok (.iconst 1, 1) := by decide +kernel
theorem dX5_branch_106 : decode cX5_branch 106 = .ok (.goto 4, 3) := by decide +kernel
theorem dX5_branch_109 : decode cX5_branch 109 = .ok (.iconst 0, 1) := by decide +kernel
theorem dX5_branch_110 : decode cX5_branch 110 = .ok (.istore_n 3, 1) := by decide +kernel
theorem dX5_branch_111 : decode cX5_branch 111 = .ok (.goto 48, 3) := by decide +kernel
theorem dX5_branch_114 : decode cX5_branch 114 = .ok (.iload_n 1, 1) := by decide +kernel
theorem dX5_branch_115 : decode cX5_branch 115 = .ok (.iload_n 2, 1) := by decide +kernel
theorem dX5_branch_116 : decode cX5_branch 116 = .ok (.if_icmp .lt 7, 3) := by decide +kernel
theorem dX5_branch_119 : decode cX5_branch 119 = .ok (.iconst 1, 1) := by decide +kernel
theorem dX5_branch_120 : decode cX5_branch 120 = .ok (.goto 4, 3) := by decide +kernel
theorem dX5_branch_123 : decode cX5_branch 123 = .ok (.iconst 0, 1) := by decide +kernel
theorem dX5_branch_124 : decode cX5_branch 124 = .ok (.istore_n 3, 1) := by decide +kernel
theorem dX5_branch_125 : decode cX5_branch 125 = .ok (.goto 34, 3) := by decide +kernel
theorem dX5_branch_128 : decode cX5_branch 128 = .ok (.iload_n 1, 1) := by decide +kernel
theorem dX5_branch_129 : decode cX5_branch 129 = .ok (.iload_n 2, 1) := by decide +kernel
theorem dX5_branch_130 : decode cX5_branch 130 = .ok (.invokestatic 181, 3) := by decide +kernel
theorem dX5_branch_133 : decode cX5_branch 133 = .ok (.istore_n 3, 1) := by decide +kernel
theorem dX5_branch_134 : decode cX5_branch 134 = .ok (.goto 25, 3) := by decide +kernel
theorem dX5_branch_137 : decode cX5_branch 137 = .ok (.iload_n 1, 1) := by decide +kernel
theorem dX5_branch_138 : decode cX5_branch 138 = .ok (.iload_n 2, 1) := by decide +kernel
theorem dX5_branch_139 : decode cX5_branch 139 = .ok (.invokestatic 181, 3) := by decide +kernel
theorem dX5_branch_142 : decode cX5_branch 142 = .ok (.ifCond .ne 7, 3) := by decide +kernel
theorem dX5_branch_145 : decode cX5_branch 145 = .ok (.iconst 1, 1) := by decide +kernel
theorem dX5_branch_146 : decode cX5_branch 146 = .ok (.goto 4, 3) := by decide +kernel
theorem dX5_branch_149 : decode cX5_branch 149 = .ok (.iconst 0, 1) := by decide +kernel
theorem dX5_branch_150 : decode cX5_branch 150 = .ok (.istore_n 3, 1) := by decide +kernel
theorem dX5_branch_151 : decode cX5_branch 151 = .ok (.goto 8, 3) := by decide +kernel
theorem dX5_branch_154 : decode cX5_branch 154 = .ok (.aload_n 0, 1) := by decide +kernel
theorem dX5_branch_155 : decode cX5_branch 155 = .ok (.invokevirtual 156, 3) := by decide +kernel
theorem dX5_branch_158 : decode cX5_branch 158 = .ok (.ireturn, 1) := by decide +kernel
theorem dX5_branch_159 : decode cX5_branch 159 = .ok (.aload_n 0, 1) := by decide +kernel
theorem dX5_branch_160 : decode cX5_branch 160 = .ok (.getfield 118, 3) := by decide +kernel
theorem dX5_branch_163 : decode cX5_branch 163 = .ok (.bipush 31, 2) := by decide +kernel
theorem dX5_branch_165 : decode cX5_branch 165 = .ok (.ishr, 1) := by decide +kernel
theorem dX5_branch_166 : decode cX5_branch 166 = .ok (.bipush 12, 2) := by decide +kernel
theorem dX5_branch_168 : decode cX5_branch 168 = .ok (.ishl, 1) := by decide +kernel
theorem dX5_branch_169 : decode cX5_branch 169 = .ok (.aload_n 0, 1) := by decide +kernel
theorem dX5_branch_170 : decode cX5_branch 170 = .ok (.getfield 118, 3) := by decide +kernel
theorem dX5_branch_173 : decode cX5_branch 173 = .ok (.bipush 7, 2) := by decide +kernel
theorem dX5_branch_175 : decode cX5_branch 175 = .ok (.ishr, 1) := by decide +kernel
theorem dX5_branch_176 : decode cX5_branch 176 = .ok (.iconst 1, 1) := by decide +kernel
theorem dX5_branch_177 : decode cX5_branch 177 = .ok (.iand, 1) := by decide +kernel
theorem dX5_branch_178 : decode cX5_branch 178 = .ok (.bipush 11, 2) := by decide +kernel
theorem dX5_branch_180 : decode cX5_branch 180 = .ok (.ishl, 1) := by decide +kernel
theorem dX5_branch_181 : decode cX5_branch 181 = .ok (.ior, 1) := by decide +kernel
theorem dX5_branch_182 : decode cX5_branch 182 = .ok (.aload_n 0, 1) := by decide +kernel
theorem dX5_branch_183 : decode cX5_branch 183 = .ok (.getfield 118, 3) := by decide +kernel
theorem dX5_branch_186 : decode cX5_branch 186 = .ok (.bipush 25, 2) := by decide +kernel
theorem dX5_branch_188 : decode cX5_branch 188 = .ok (.ishr, 1) := by decide +kernel
theorem dX5_branch_189 : decode cX5_branch 189 = .ok (.bipush 63, 2) := by decide +kernel
theorem dX5_branch_191 : decode cX5_branch 191 = .ok (.iand, 1) := by decide +kernel
theorem dX5_branch_192 : decode cX5_branch 192 = .ok (.iconst 5, 1) := by decide +kernel
theorem dX5_branch_193 : decode cX5_branch 193 = .ok (.ishl, 1) := by decide +kernel
theorem dX5_branch_194 : decode cX5_branch 194 = .ok (.ior, 1) := by decide +kernel
theorem dX5_branch_195 : decode cX5_branch 195 = .ok (.aload_n 0, 1) := by decide +kernel
theorem dX5_branch_196 : decode cX5_branch 196 = .ok (.getfield 118, 3) := by decide +kernel
theorem dX5_branch_199 : decode cX5_branch 199 = .ok (.bipush 8, 2) := by decide +kernel
theorem dX5_branch_201 : decode cX5_branch 201 = .ok (.ishr, 1) := by decide +kernel
theorem dX5_branch_202 : decode cX5_branch 202 = .ok (.bipush 15, 2) := by decide +kernel
theorem dX5_branch_204 : decode cX5_branch 204 = .ok (.iand, 1) := by decide +kernel
theorem dX5_branch_205 : decode cX5_branch 205 = .ok (.iconst 1, 1) := by decide +kernel
theorem dX5_branch_206 : decode cX5_branch 206 = .ok (.ishl, 1) := by decide +kernel
theorem dX5_branch_207 : decode cX5_branch 207 = .ok (.ior, 1) := by decide +kernel
theorem dX5_branch_208 : decode cX5_branch 208 = .ok (.istore 4, 2) := by decide +kernel
theorem dX5_branch_210 : decode cX5_branch 210 = .ok (.iload_n 3, 1) := by decide +kernel
theorem dX5_branch_211 : decode cX5_branch 211 = .ok (.ifCond .eq 18, 3) := by decide +kernel
theorem dX5_branch_214 : decode cX5_branch 214 = .ok (.aload_n 0, 1) := by decide +kernel
theorem dX5_branch_215 : decode cX5_branch 215 = .ok (.aload_n 0, 1) := by decide +kernel
theorem dX5_branch_216 : decode cX5_branch 216 = .ok (.getfield 30, 3) := by decide +kernel
theorem dX5_branch_219 : decode cX5_branch 219 = .ok (.iload 4, 2) := by decide +kernel
theorem dX5_branch_221 : decode cX5_branch 221 = .ok (.iadd, 1) := by decide +kernel
theorem dX5_branch_222 : decode cX5_branch 222 = .ok (.iconst 0, 1) := by decide +kernel
theorem dX5_branch_223 : decode cX5_branch 223 = .ok (.invokevirtual 149, 3) := by decide +kernel
theorem dX5_branch_226 : decode cX5_branch 226 = .ok (.goto 4, 3) := by decide +kernel
theorem dX5_branch_229 : decode cX5_branch 229 = .ok (.iconst (-1), 1) := by decide +kernel
theorem dX5_branch_230 : decode cX5_branch 230 = .ok (.ireturn, 1) := by decide +kernel
theorem dX5_read_0 : decode cX5_read 0 = .ok (.aload_n 0, 1) := by decide +kernel
theorem dX5_read_1 : decode cX5_read 1 = .ok (.getfield 127, 3) := by decide +kernel
theorem dX5_read_4 : decode cX5_read 4 = .ok (.iconst 3, 1) := by decide +kernel
theorem dX5_read_5 : decode cX5_read 5 = .ok (.if_icmp .eq 11, 3) := by decide +kernel
theorem dX5_read_8 : decode cX5_read 8 = .ok (.aload_n 0, 1) := by decide +kernel
theorem dX5_read_9 : decode cX5_read 9 = .ok (.getfield 127, 3) := by decide +kernel
theorem dX5_read_12 : decode cX5_read 12 = .ok (.iconst 5, 1) := by decide +kernel
theorem dX5_read_13 : decode cX5_read 13 = .ok (.if_icmp .le 8, 3) := by decide +kernel
theorem dX5_read_16 : decode cX5_read 16 = .ok (.aload_n 0, 1) := by decide +kernel
theorem dX5_read_17 : decode cX5_read 17 = .ok (.invokevirtual 156, 3) := by decide +kernel
theorem dX5_read_20 : decode cX5_read 20 = .ok (.ireturn, 1) := by decide +kernel
theorem dX5_read_21 : decode cX5_read 21 = .ok (.aload_n 0, 1) := by decide +kernel
theorem dX5_read_22 : decode cX5_read 22 = .ok (.getfield 14, 3) := by decide +kernel
theorem dX5_read_25 : decode cX5_read 25 = .ok (.aload_n 0, 1) := by decide +kernel
theorem dX5_read_26 : decode cX5_read 26 = .ok (.getfield 130, 3) := by decide +kernel
theorem dX5_read_29 : decode cX5_read 29 = .ok (.iaload, 1) := by decide +kernel
theorem dX5_read_30 : decode cX5_read 30 = .ok (.aload_n 0, 1) := by decide +kernel
theorem dX5_read_31 : decode cX5_read 31 = .ok (.invokevirtual 153, 3) := by decide +kernel
theorem dX5_read_34 : decode cX5_read 34 = .ok (.iadd, 1) := by decide +kernel
theorem dX5_read_35 : decode cX5_read 35 = .ok (.istore_n 1, 1) := by decide +kernel
theorem dX5_read_36 : decode cX5_read 36 = .ok (.iconst 1, 1) := by decide +kernel
theorem dX5_read_37 : decode cX5_read 37 = .ok (.aload_n 0, 1) := by decide +kernel
theorem dX5_read_38 : decode cX5_read 38 = .ok (.getfield 127, 3) := by decide +kernel
theorem dX5_read_41 : decode cX5_read 41 = .ok (.iconst 3, 1) := by decide +kernel
theorem dX5_read_42 : decode cX5_read 42 = .ok (.iand, 1) := by decide +kernel
theorem dX5_read_43 : decode cX5_read 43 = .ok (.ishl, 1) := by decide +kernel
theorem dX5_read_44 : decode cX5_read 44 = .ok (.istore_n 2, 1) := by decide +kernel
theorem dX5_read_45 : decode cX5_read 45 = .ok (.iload_n 1, 1) := by decide +kernel
theorem dX5_read_46 : decode cX5_read 46 = .ok (.iload_n 2, 1) := by decide +kernel
theorem dX5_read_47 : decode cX5_read 47 = .ok (.iconst 1, 1) := by decide +kernel
theorem dX5_read_48 : decode cX5_read 48 = .ok (.isub, 1) := by decide +kernel
theorem dX5_read_49 : decode cX5_read 49 = .ok (.iand, 1) := by decide +kernel
theorem dX5_read_50 : decode cX5_read 50 = .ok (.ifCond .eq 10, 3) := by decide +kernel
theorem dX5_read_53 : decode cX5_read 53 = .ok (.aload_n 0, 1) := by decide +kernel
theorem dX5_read_54 : decode cX5_read 54 = .ok (.iconst 4, 1) := by decide +kernel
theorem dX5_read_55 : decode cX5_read 55 = .ok (.iload_n 1, 1) := by decide +kernel
theorem dX5_read_56 : decode cX5_read 56 = .ok (.invokevirtual 104, 3) := by decide +kernel
theorem dX5_read_59 : decode cX5_read 59 = .ok (.ireturn, 1) := by decide +kernel
theorem dX5_read_60 : decode cX5_read 60 = .ok (.iconst 0, 1) := by decide +kernel
theorem dX5_read_61 : decode cX5_read 61 = .ok (.istore_n 3, 1) := by decide +kernel
theorem dX5_read_62 : decode cX5_read 62 = .ok (.aload_n 0, 1) := by decide +kernel
theorem dX5_read_63 : decode cX5_read 63 = .ok (.iload_n 1, 1) := by decide +kernel
theorem dX5_read_64 : decode cX5_read 64 = .ok (.iload_n 2, 1) := by decide +kernel
theorem dX5_read_65 : decode cX5_read 65 = .ok (.invokevirtual 79, 3) := by decide +kernel
theorem dX5_read_68 : decode cX5_read 68 = .ok (.ifCond .eq 13, 3) := by decide +kernel
theorem dX5_read_71 : decode cX5_read 71 = .ok (.aload_n 0, 1) := by decide +kernel
theorem dX5_read_72 : decode cX5_read 72 = .ok (.iload_n 1, 1) := by decide +kernel
theorem dX5_read_73 : decode cX5_read 73 = .ok (.iload_n 2, 1) := by decide +kernel
theorem dX5_read_74 : decode cX5_read 74 = .ok (.invokevirtual 121, 3) := by decide +kernel
theorem dX5_read_77 : decode cX5_read 77 = .ok (.istore_n 3, 1) := by decide +kernel
theorem dX5_read_78 : decode cX5_read 78 = .ok (.goto 97, 3) := by decide +kernel
theorem dX5_read_81 : decode cX5_read 81 = .ok (.iload_n 2, 1) := by decide +kernel
theorem dX5_read_82 : decode cX5_read 82 = .ok (.iconst 4, 1) := by decide +kernel
theorem dX5_read_83 : decode cX5_read 83 = .ok (.if_icmp .ne 85, 3) := by decide +kernel
theorem dX5_read_86 : decode cX5_read 86 = .ok (.iload_n 1, 1) := by decide +kernel
theorem dX5_read_87 : decode cX5_read 87 = .ok (.invokestatic 184, 3) := by decide +kernel
theorem dX5_read_90 : decode cX5_read 90 = .ok (.ifCond .eq 78, 3) := by decide +kernel
theorem dX5_read_93 : decode cX5_read 93 = .ok (.iload_n 1, 1) := by decide +kernel
theorem dX5_read_94 : decode cX5_read 94 = .ok (.ldc 188, 2) := by decide +kernel
theorem dX5_read_96 : decode cX5_read 96 = .ok (.if_icmp .ne 11, 3) := by decide +kernel
theorem dX5_read_99 : decode cX5_read 99 = .ok (.aload_n 0, 1) := by decide +kernel
theorem dX5_read_100 : decode cX5_read 100 = .ok (.getfield 58, 3) := by decide +kernel
theorem dX5_read_103 : decode cX5_read 103 = .ok (.l2i, 1) := by decide +kernel
theorem dX5_read_104 : decode cX5_read 104 = .ok (.goto 60, 3) := by decide +kernel
theorem dX5_read_107 : decode cX5_read 107 = .ok (.iload_n 1, 1) := by decide +kernel
theorem dX5_read_108 : decode cX5_read 108 = .ok (.ldc 189, 2) := by decide +kernel
theorem dX5_read_110 : decode cX5_read 110 = .ok (.if_icmp .ne 14, 3) := by decide +kernel
theorem dX5_read_113 : decode cX5_read 113 = .ok (.aload_n 0, 1) := by decide +kernel
theorem dX5_read_114 : decode cX5_read 114 = .ok (.getfield 58, 3) := by decide +kernel
theorem dX5_read_117 : decode cX5_read 117 = .ok (.bipush 32, 2) := by decide +kernel
theorem dX5_read_119 : decode cX5_read 119 = .ok (.lshr, 1) := by decide +kernel
theorem dX5_read_120 : decode cX5_read 120 = .ok (.l2i, 1) := by decide +kernel
theorem dX5_read_121 : decode cX5_read 121 = .ok (.goto 43, 3) := by decide +kernel
theorem dX5_read_124 : decode cX5_read 124 = .ok (.iload_n 1, 1) := by decide +kernel
theorem dX5_read_125 : decode cX5_read 125 = .ok (.ldc 190, 2) := by decide +kernel
theorem dX5_read_127 : decode cX5_read 127 = .ok (.if_icmp .ne 11, 3) := by decide +kernel
theorem dX5_read_130 : decode cX5_read 130 = .ok (.aload_n 0, 1) := by decide +kernel
theorem dX5_read_131 : decode cX5_read 131 = .ok (.getfield 64, 3) := by decide +kernel
theorem dX5_read_134 : decode cX5_read 134 = .ok (.l2i, 1) := by decide +kernel
theorem dX5_read_135 : decode cX5_read 135 = .ok (.goto 29, 3) := by decide +kernel
theorem dX5_read_138 : decode cX5_read 138 = .ok (.iload_n 1, 1) := by decide +kernel
theorem dX5_read_139 : decode cX5_read 139 = .ok (.ldc 191, 2) := by decide +kernel
theorem dX5_read_141 : decode cX5_read 141 = .ok (.if_icmp .ne 14, 3) := by decide +kernel
theorem dX5_read_144 : decode cX5_read 144 = .ok (.aload_n 0, 1) := by decide +kernel
theorem dX5_read_145 : decode cX5_read 145 = .ok (.getfield 64, 3) := by decide +kernel
theorem dX5_read_148 : decode cX5_read 148 = .ok (.bipush 32, 2) := by decide +kernel
theorem dX5_read_150 : decode cX5_read 150 = .ok (.lshr, 1) := by decide +kernel
theorem dX5_read_151 : decode cX5_read 151 = .ok (.l2i, 1) := by decide +kernel
theorem dX5_read_152 : decode cX5_read 152 = .ok (.goto 12, 3) := by decide +kernel
theorem dX5_read_155 : decode cX5_read 155 = .ok (.aload_n 0, 1) := by decide +kernel
theorem dX5_read_156 : decode cX5_read 156 = .ok (.getfield 24, 3) := by decide +kernel
theorem dX5_read_159 : decode cX5_read 159 = .ok (.aload_n 0, 1) := by decide +kernel
theorem dX5_read_160 : decode cX5_read 160 = .ok (.getfield 67, 3) := by decide +kernel
theorem dX5_read_163 : decode cX5_read 163 = .ok (.isub, 1) := by decide +kernel
theorem dX5_read_164 : decode cX5_read 164 = .ok (.istore_n 3, 1) := by decide +kernel
theorem dX5_read_165 : decode cX5_read 165 = .ok (.goto 10, 3) := by decide +kernel
theorem dX5_read_168 : decode cX5_read 168 = .ok (.aload_n 0, 1) := by decide +kernel
theorem dX5_read_169 : decode cX5_read 169 = .ok (.iconst 5, 1) := by decide +kernel
theorem dX5_read_170 : decode cX5_read 170 = .ok (.iload_n 1, 1) := by decide +kernel
theorem dX5_read_171 : decode cX5_read 171 = .ok (.invokevirtual 104, 3) := by decide +kernel
theorem dX5_read_174 : decode cX5_read 174 = .ok (.ireturn, 1) := by decide +kernel
theorem dX5_read_175 : decode cX5_read 175 = .ok (.aload_n 0, 1) := by decide +kernel
theorem dX5_read_176 : decode cX5_read 176 = .ok (.getfield 127, 3) := by decide +kernel
theorem dX5_read_179 : decode cX5_read 179 = .ok (.ifCond .ne 13, 3) := by decide +kernel
theorem dX5_read_182 : decode cX5_read 182 = .ok (.iload_n 3, 1) := by decide +kernel
theorem dX5_read_183 : decode cX5_read 183 = .ok (.bipush 24, 2) := by decide +kernel
theorem dX5_read_185 : decode cX5_read 185 = .ok (.ishl, 1) := by decide +kernel
theorem dX5_read_186 : decode cX5_read 186 = .ok (.bipush 24, 2) := by decide +kernel
theorem dX5_read_188 : decode cX5_read 188 = .ok (.ishr, 1) := by decide +kernel
theorem dX5_read_189 : decode cX5_read 189 = .ok (.goto 22, 3) := by decide +kernel
theorem dX5_read_192 : decode cX5_read 192 = .ok (.aload_n 0, 1) := by decide +kernel
theorem dX5_read_193 : decode cX5_read 193 = .ok (.getfield 127, 3) := by decide +kernel
theorem dX5_read_196 : decode cX5_read 196 = .ok (.iconst 1, 1) := by decide +kernel
theorem dX5_read_197 : decode cX5_read 197 = .ok (.if_icmp .ne 13, 3) := by decide +kernel
theorem dX5_read_200 : decode cX5_read 200 = .ok (.iload_n 3, 1) := by decide +kernel
theorem dX5_read_201 : decode cX5_read 201 = .ok (.bipush 16, 2) := by decide +kernel
theorem dX5_read_203 : decode cX5_read 203 = .ok (.ishl, 1) := by decide +kernel
theorem dX5_read_204 : decode cX5_read 204 = .ok (.bipush 16, 2) := by decide +kernel
theorem dX5_read_206 : decode cX5_read 206 = .ok (.ishr, 1) := by decide +kernel
theorem dX5_read_207 : decode cX5_read 207 = .ok (.goto 4, 3) := by decide +kernel
theorem dX5_read_210 : decode cX5_read 210 = .ok (.iload_n 3, 1) := by decide +kernel
theorem dX5_read_211 : decode cX5_read 211 = .ok (.istore_n 3, 1) := by decide +kernel
theorem dX5_read_212 : decode cX5_read 212 = .ok (.aload_n 0, 1) := by decide +kernel
theorem dX5_read_213 : decode cX5_read 213 = .ok (.iload_n 3, 1) := by decide +kernel
theorem dX5_read_214 : decode cX5_read 214 = .ok (.invokevirtual 145, 3) := by decide +kernel
theorem dX5_read_217 : decode cX5_read 217 = .ok (.ireturn, 1) := by decide +kernel
theorem dX5_isDevice_0 : decode cX5_isDevice 0 = .ok (.iload_n 0, 1) := by decide +kernel
theorem dX5_isDevice_1 : decode cX5_isDevice 1 = .ok (.invokestatic 192, 3) := by decide +kernel
theorem dX5_isDevice_4 : decode cX5_isDevice 4 = .ok (.ifCond .ne 9, 3) := by decide +kernel
theorem dX5_isDevice_7 : decode cX5_isDevice 7 = .ok (.iload_n 0, 1) := by decide +kernel
theorem dX5_isDevice_8 : decode cX5_isDevice 8 = .ok (.ldc 195, 2) := by decide +kernel
theorem dX5_isDevice_10 : decode cX5_isDevice 10 = .ok (.if_icmp .ne 7, 3) := by decide +kernel
theorem dX5_isDevice_13 : decode cX5_isDevice 13 = .ok (.iconst 1, 1) := by decide +kernel
theorem dX5_isDevice_14 : decode cX5_isDevice 14 = .ok (.goto 4, 3) := by decide +kernel
theorem dX5_isDevice_17 : decode cX5_isDevice 17 = .ok (.iconst 0, 1) := by decide +kernel
theorem dX5_isDevice_18 : decode cX5_isDevice 18 = .ok (.ireturn, 1) := by decide +kernel
theorem dX5_isClock_0 : decode cX5_isClock 0 = .ok (.iload_n 0, 1) := by decide +kernel
theorem dX5_isClock_1 : decode cX5_isClock 1 = .ok (.ldc 188, 2) := by decide +kernel
theorem dX5_isClock_3 : decode cX5_isClock 3 = .ok (.if_icmp .eq 21, 3) := by decide +kernel
theorem dX5_isClock_6 : decode cX5_isClock 6 = .ok (.iload_n 0, 1) := by decide +kernel
theorem dX5_isClock_7 : decode cX5_isClock 7 = .ok (.ldc 189, 2) := by decide +kernel
theorem dX5_isClock_9 : decode cX5_isClock 9 = .ok (.if_icmp .eq 15, 3) := by decide +kernel
theorem dX5_isClock_12 : decode cX5_isClock 12 = .ok (.iload_n 0, 1) := by decide +kernel
theorem dX5_isClock_13 : decode cX5_isClock 13 = .ok (.ldc 190, 2) := by decide +kernel
theorem dX5_isClock_15 : decode cX5_isClock 15 = .ok (.if_icmp .eq 9, 3) := by decide +kernel
theorem dX5_isClock_18 : decode cX5_isClock 18 = .ok (.iload_n 0, 1) := by decide +kernel
theorem dX5_isClock_19 : decode cX5_isClock 19 = .ok (.ldc 191, 2) := by decide +kernel
theorem dX5_isClock_21 : decode cX5_isClock 21 = .ok (.if_icmp .ne 7, 3) := by decide +kernel
theorem dX5_isClock_24 : decode cX5_isClock 24 = .ok (.iconst 1, 1) := by decide +kernel
theorem dX5_isClock_25 : decode cX5_isClock 25 = .ok (.goto 4, 3) := by decide +kernel
theorem dX5_isClock_28 : decode cX5_isClock 28 = .ok (.iconst 0, 1) := by decide +kernel
theorem dX5_isClock_29 : decode cX5_isClock 29 = .ok (.ireturn, 1) := by decide +kernel
theorem dX5_mixed_0 : decode cX5_mixed 0 = .ok (.iload_n 2, 1) := by decide +kernel
theorem dX5_mixed_1 : decode cX5_mixed 1 = .ok (.ifCond .eq 17, 3) := by decide +kernel
theorem dX5_mixed_4 : decode cX5_mixed 4 = .ok (.iload_n 3, 1) := by decide +kernel
theorem dX5_mixed_5 : decode cX5_mixed 5 = .ok (.i2l, 1) := by decide +kernel
theorem dX5_mixed_6 : decode cX5_mixed 6 = .ok (.bipush 32, 2) := by decide +kernel
theorem dX5_mixed_8 : decode cX5_mixed 8 = .ok (.lshl, 1) := by decide +kernel
theorem dX5_mixed_9 : decode cX5_mixed 9 = .ok (.lload_n 0, 1) := by decide +kernel
theorem dX5_mixed_10 : decode cX5_mixed 10 = .ok (.ldc2_w 196, 3) := by decide +kernel
