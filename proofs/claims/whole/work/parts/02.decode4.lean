/-! decode rows -/
theorem dX5_mixed_13 : decode cX5_mixed 13 = .ok (.land, 1) := by decide +kernel
theorem dX5_mixed_14 : decode cX5_mixed 14 = .ok (.lor, 1) := by decide +kernel
theorem dX5_mixed_15 : decode cX5_mixed 15 = .ok (.goto 17, 3) := by decide +kernel
theorem dX5_mixed_18 : decode cX5_mixed 18 = .ok (.lload_n 0, 1) := by decide +kernel
theorem dX5_mixed_19 : decode cX5_mixed 19 = .ok (.bipush 32, 2) := by decide +kernel
theorem dX5_mixed_21 : decode cX5_mixed 21 = .ok (.lshr, 1) := by decide +kernel
theorem dX5_mixed_22 : decode cX5_mixed 22 = .ok (.bipush 32, 2) := by decide +kernel
theorem dX5_mixed_24 : decode cX5_mixed 24 = .ok (.lshl, 1) := by decide +kernel
theorem dX5_mixed_25 : decode cX5_mixed 25 = .ok (.iload_n 3, 1) := by decide +kernel
theorem dX5_mixed_26 : decode cX5_mixed 26 = .ok (.i2l, 1) := by decide +kernel
theorem dX5_mixed_27 : decode cX5_mixed 27 = .ok (.ldc2_w 196, 3) := by decide +kernel
theorem dX5_mixed_30 : decode cX5_mixed 30 = .ok (.land, 1) := by decide +kernel
theorem dX5_mixed_31 : decode cX5_mixed 31 = .ok (.lor, 1) := by decide +kernel
theorem dX5_mixed_32 : decode cX5_mixed 32 = .ok (.lreturn, 1) := by decide +kernel
theorem dX5_store_0 : decode cX5_store 0 = .ok (.aload_n 0, 1) := by decide +kernel
theorem dX5_store_1 : decode cX5_store 1 = .ok (.getfield 127, 3) := by decide +kernel
theorem dX5_store_4 : decode cX5_store 4 = .ok (.iconst 2, 1) := by decide +kernel
theorem dX5_store_5 : decode cX5_store 5 = .ok (.if_icmp .le 8, 3) := by decide +kernel
theorem dX5_store_8 : decode cX5_store 8 = .ok (.aload_n 0, 1) := by decide +kernel
theorem dX5_store_9 : decode cX5_store 9 = .ok (.invokevirtual 156, 3) := by decide +kernel
theorem dX5_store_12 : decode cX5_store 12 = .ok (.ireturn, 1) := by decide +kernel
theorem dX5_store_13 : decode cX5_store 13 = .ok (.aload_n 0, 1) := by decide +kernel
theorem dX5_store_14 : decode cX5_store 14 = .ok (.getfield 14, 3) := by decide +kernel
theorem dX5_store_17 : decode cX5_store 17 = .ok (.aload_n 0, 1) := by decide +kernel
theorem dX5_store_18 : decode cX5_store 18 = .ok (.getfield 130, 3) := by decide +kernel
theorem dX5_store_21 : decode cX5_store 21 = .ok (.iaload, 1) := by decide +kernel
theorem dX5_store_22 : decode cX5_store 22 = .ok (.aload_n 0, 1) := by decide +kernel
theorem dX5_store_23 : decode cX5_store 23 = .ok (.getfield 118, 3) := by decide +kernel
theorem dX5_store_26 : decode cX5_store 26 = .ok (.bipush 25, 2) := by decide +kernel
theorem dX5_store_28 : decode cX5_store 28 = .ok (.ishr, 1) := by decide +kernel
theorem dX5_store_29 : decode cX5_store 29 = .ok (.iconst 5, 1) := by decide +kernel
theorem dX5_store_30 : decode cX5_store 30 = .ok (.ishl, 1) := by decide +kernel
theorem dX5_store_31 : decode cX5_store 31 = .ok (.aload_n 0, 1) := by decide +kernel
theorem dX5_store_32 : decode cX5_store 32 = .ok (.getfield 124, 3) := by decide +kernel
theorem dX5_store_35 : decode cX5_store 35 = .ok (.ior, 1) := by decide +kernel
theorem dX5_store_36 : decode cX5_store 36 = .ok (.iadd, 1) := by decide +kernel
theorem dX5_store_37 : decode cX5_store 37 = .ok (.istore_n 1, 1) := by decide +kernel
theorem dX5_store_38 : decode cX5_store 38 = .ok (.iconst 1, 1) := by decide +kernel
theorem dX5_store_39 : decode cX5_store 39 = .ok (.aload_n 0, 1) := by decide +kernel
theorem dX5_store_40 : decode cX5_store 40 = .ok (.getfield 127, 3) := by decide +kernel
theorem dX5_store_43 : decode cX5_store 43 = .ok (.ishl, 1) := by decide +kernel
theorem dX5_store_44 : decode cX5_store 44 = .ok (.istore_n 2, 1) := by decide +kernel
theorem dX5_store_45 : decode cX5_store 45 = .ok (.aload_n 0, 1) := by decide +kernel
theorem dX5_store_46 : decode cX5_store 46 = .ok (.getfield 14, 3) := by decide +kernel
theorem dX5_store_49 : decode cX5_store 49 = .ok (.aload_n 0, 1) := by decide +kernel
theorem dX5_store_50 : decode cX5_store 50 = .ok (.getfield 133, 3) := by decide +kernel
theorem dX5_store_53 : decode cX5_store 53 = .ok (.iaload, 1) := by decide +kernel
theorem dX5_store_54 : decode cX5_store 54 = .ok (.istore_n 3, 1) := by decide +kernel
theorem dX5_store_55 : decode cX5_store 55 = .ok (.iload_n 1, 1) := by decide +kernel
theorem dX5_store_56 : decode cX5_store 56 = .ok (.iload_n 2, 1) := by decide +kernel
theorem dX5_store_57 : decode cX5_store 57 = .ok (.iconst 1, 1) := by decide +kernel
theorem dX5_store_58 : decode cX5_store 58 = .ok (.isub, 1) := by decide +kernel
theorem dX5_store_59 : decode cX5_store 59 = .ok (.iand, 1) := by decide +kernel
theorem dX5_store_60 : decode cX5_store 60 = .ok (.ifCond .eq 11, 3) := by decide +kernel
theorem dX5_store_63 : decode cX5_store 63 = .ok (.aload_n 0, 1) := by decide +kernel
theorem dX5_store_64 : decode cX5_store 64 = .ok (.bipush 6, 2) := by decide +kernel
theorem dX5_store_66 : decode cX5_store 66 = .ok (.iload_n 1, 1) := by decide +kernel
theorem dX5_store_67 : decode cX5_store 67 = .ok (.invokevirtual 104, 3) := by decide +kernel
theorem dX5_store_70 : decode cX5_store 70 = .ok (.ireturn, 1) := by decide +kernel
theorem dX5_store_71 : decode cX5_store 71 = .ok (.aload_n 0, 1) := by decide +kernel
theorem dX5_store_72 : decode cX5_store 72 = .ok (.iload_n 1, 1) := by decide +kernel
theorem dX5_store_73 : decode cX5_store 73 = .ok (.iload_n 2, 1) := by decide +kernel
theorem dX5_store_74 : decode cX5_store 74 = .ok (.invokevirtual 79, 3) := by decide +kernel
theorem dX5_store_77 : decode cX5_store 77 = .ok (.ifCond .eq 13, 3) := by decide +kernel
theorem dX5_store_80 : decode cX5_store 80 = .ok (.aload_n 0, 1) := by decide +kernel
theorem dX5_store_81 : decode cX5_store 81 = .ok (.iload_n 1, 1) := by decide +kernel
theorem dX5_store_82 : decode cX5_store 82 = .ok (.iload_n 2, 1) := by decide +kernel
theorem dX5_store_83 : decode cX5_store 83 = .ok (.iload_n 3, 1) := by decide +kernel
theorem dX5_store_84 : decode cX5_store 84 = .ok (.invokevirtual 83, 3) := by decide +kernel
theorem dX5_store_87 : decode cX5_store 87 = .ok (.goto 134, 3) := by decide +kernel
theorem dX5_store_90 : decode cX5_store 90 = .ok (.iload_n 1, 1) := by decide +kernel
theorem dX5_store_91 : decode cX5_store 91 = .ok (.ldc 195, 2) := by decide +kernel
theorem dX5_store_93 : decode cX5_store 93 = .ok (.if_icmp .ne 43, 3) := by decide +kernel
theorem dX5_store_96 : decode cX5_store 96 = .ok (.aload_n 0, 1) := by decide +kernel
theorem dX5_store_97 : decode cX5_store 97 = .ok (.getfield 67, 3) := by decide +kernel
theorem dX5_store_100 : decode cX5_store 100 = .ok (.aload_n 0, 1) := by decide +kernel
theorem dX5_store_101 : decode cX5_store 101 = .ok (.getfield 24, 3) := by decide +kernel
theorem dX5_store_104 : decode cX5_store 104 = .ok (.if_icmp .ne 5, 3) := by decide +kernel
theorem dX5_store_107 : decode cX5_store 107 = .ok (.iconst 4, 1) := by decide +kernel
theorem dX5_store_108 : decode cX5_store 108 = .ok (.ireturn, 1) := by decide +kernel
theorem dX5_store_109 : decode cX5_store 109 = .ok (.aload_n 0, 1) := by decide +kernel
theorem dX5_store_110 : decode cX5_store 110 = .ok (.getfield 17, 3) := by decide +kernel
theorem dX5_store_113 : decode cX5_store 113 = .ok (.aload_n 0, 1) := by decide +kernel
theorem dX5_store_114 : decode cX5_store 114 = .ok (.getfield 67, 3) := by decide +kernel
theorem dX5_store_117 : decode cX5_store 117 = .ok (.iload_n 3, 1) := by decide +kernel
theorem dX5_store_118 : decode cX5_store 118 = .ok (.sipush 255, 3) := by decide +kernel
theorem dX5_store_121 : decode cX5_store 121 = .ok (.iand, 1) := by decide +kernel
theorem dX5_store_122 : decode cX5_store 122 = .ok (.iastore, 1) := by decide +kernel
theorem dX5_store_123 : decode cX5_store 123 = .ok (.aload_n 0, 1) := by decide +kernel
theorem dX5_store_124 : decode cX5_store 124 = .ok (.dup, 1) := by decide +kernel
theorem dX5_store_125 : decode cX5_store 125 = .ok (.getfield 67, 3) := by decide +kernel
theorem dX5_store_128 : decode cX5_store 128 = .ok (.iconst 1, 1) := by decide +kernel
theorem dX5_store_129 : decode cX5_store 129 = .ok (.iadd, 1) := by decide +kernel
theorem dX5_store_130 : decode cX5_store 130 = .ok (.putfield 67, 3) := by decide +kernel
theorem dX5_store_133 : decode cX5_store 133 = .ok (.goto 88, 3) := by decide +kernel
theorem dX5_store_136 : decode cX5_store 136 = .ok (.iload_n 2, 1) := by decide +kernel
theorem dX5_store_137 : decode cX5_store 137 = .ok (.iconst 4, 1) := by decide +kernel
theorem dX5_store_138 : decode cX5_store 138 = .ok (.if_icmp .ne 75, 3) := by decide +kernel
theorem dX5_store_141 : decode cX5_store 141 = .ok (.iload_n 1, 1) := by decide +kernel
theorem dX5_store_142 : decode cX5_store 142 = .ok (.invokestatic 192, 3) := by decide +kernel
theorem dX5_store_145 : decode cX5_store 145 = .ok (.ifCond .eq 68, 3) := by decide +kernel
theorem dX5_store_148 : decode cX5_store 148 = .ok (.iload_n 1, 1) := by decide +kernel
theorem dX5_store_149 : decode cX5_store 149 = .ok (.ldc 189, 2) := by decide +kernel
theorem dX5_store_151 : decode cX5_store 151 = .ok (.if_icmp .eq 9, 3) := by decide +kernel
theorem dX5_store_154 : decode cX5_store 154 = .ok (.iload_n 1, 1) := by decide +kernel
theorem dX5_store_155 : decode cX5_store 155 = .ok (.ldc 191, 2) := by decide +kernel
theorem dX5_store_157 : decode cX5_store 157 = .ok (.if_icmp .ne 7, 3) := by decide +kernel
theorem dX5_store_160 : decode cX5_store 160 = .ok (.iconst 1, 1) := by decide +kernel
theorem dX5_store_161 : decode cX5_store 161 = .ok (.goto 4, 3) := by decide +kernel
theorem dX5_store_164 : decode cX5_store 164 = .ok (.iconst 0, 1) := by decide +kernel
theorem dX5_store_165 : decode cX5_store 165 = .ok (.istore 4, 2) := by decide +kernel
theorem dX5_store_167 : decode cX5_store 167 = .ok (.iload_n 1, 1) := by decide +kernel
theorem dX5_store_168 : decode cX5_store 168 = .ok (.ldc 188, 2) := by decide +kernel
theorem dX5_store_170 : decode cX5_store 170 = .ok (.if_icmp .eq 9, 3) := by decide +kernel
theorem dX5_store_173 : decode cX5_store 173 = .ok (.iload_n 1, 1) := by decide +kernel
theorem dX5_store_174 : decode cX5_store 174 = .ok (.ldc 189, 2) := by decide +kernel
theorem dX5_store_176 : decode cX5_store 176 = .ok (.if_icmp .ne 20, 3) := by decide +kernel
theorem dX5_store_179 : decode cX5_store 179 = .ok (.aload_n 0, 1) := by decide +kernel
theorem dX5_store_180 : decode cX5_store 180 = .ok (.aload_n 0, 1) := by decide +kernel
theorem dX5_store_181 : decode cX5_store 181 = .ok (.getfield 58, 3) := by decide +kernel
theorem dX5_store_184 : decode cX5_store 184 = .ok (.iload 4, 2) := by decide +kernel
theorem dX5_store_186 : decode cX5_store 186 = .ok (.iload_n 3, 1) := by decide +kernel
theorem dX5_store_187 : decode cX5_store 187 = .ok (.invokestatic 198, 3) := by decide +kernel
theorem dX5_store_190 : decode cX5_store 190 = .ok (.putfield 58, 3) := by decide +kernel
theorem dX5_store_193 : decode cX5_store 193 = .ok (.goto 17, 3) := by decide +kernel
theorem dX5_store_196 : decode cX5_store 196 = .ok (.aload_n 0, 1) := by decide +kernel
theorem dX5_store_197 : decode cX5_store 197 = .ok (.aload_n 0, 1) := by decide +kernel
theorem dX5_store_198 : decode cX5_store 198 = .ok (.getfield 64, 3) := by decide +kernel
theorem dX5_store_201 : decode cX5_store 201 = .ok (.iload 4, 2) := by decide +kernel
theorem dX5_store_203 : decode cX5_store 203 = .ok (.iload_n 3, 1) := by decide +kernel
theorem dX5_store_204 : decode cX5_store 204 = .ok (.invokestatic 198, 3) := by decide +kernel
theorem dX5_store_207 : decode cX5_store 207 = .ok (.putfield 64, 3) := by decide +kernel
theorem dX5_store_210 : decode cX5_store 210 = .ok (.goto 11, 3) := by decide +kernel
theorem dX5_store_213 : decode cX5_store 213 = .ok (.aload_n 0, 1) := by decide +kernel
theorem dX5_store_214 : decode cX5_store 214 = .ok (.bipush 7, 2) := by decide +kernel
theorem dX5_store_216 : decode cX5_store 216 = .ok (.iload_n 1, 1) := by decide +kernel
theorem dX5_store_217 : decode cX5_store 217 = .ok (.invokevirtual 104, 3) := by decide +kernel
theorem dX5_store_220 : decode cX5_store 220 = .ok (.ireturn, 1) := by decide +kernel
theorem dX5_store_221 : decode cX5_store 221 = .ok (.iconst (-1), 1) := by decide +kernel
theorem dX5_store_222 : decode cX5_store 222 = .ok (.ireturn, 1) := by decide +kernel
theorem dX5_reckonBy_0 : decode cX5_reckonBy 0 = .ok (.aload_n 0, 1) := by decide +kernel
theorem dX5_reckonBy_1 : decode cX5_reckonBy 1 = .ok (.getfield 14, 3) := by decide +kernel
theorem dX5_reckonBy_4 : decode cX5_reckonBy 4 = .ok (.aload_n 0, 1) := by decide +kernel
theorem dX5_reckonBy_5 : decode cX5_reckonBy 5 = .ok (.getfield 130, 3) := by decide +kernel
theorem dX5_reckonBy_8 : decode cX5_reckonBy 8 = .ok (.iaload, 1) := by decide +kernel
theorem dX5_reckonBy_9 : decode cX5_reckonBy 9 = .ok (.istore_n 2, 1) := by decide +kernel
theorem dX5_reckonBy_10 : decode cX5_reckonBy 10 = .ok (.aload_n 0, 1) := by decide +kernel
theorem dX5_reckonBy_11 : decode cX5_reckonBy 11 = .ok (.getfield 127, 3) := by decide +kernel
theorem dX5_reckonBy_14 : decode cX5_reckonBy 14 = .ok (.iconst 1, 1) := by decide +kernel
theorem dX5_reckonBy_15 : decode cX5_reckonBy 15 = .ok (.if_icmp .ne 28, 3) := by decide +kernel
theorem dX5_reckonBy_18 : decode cX5_reckonBy 18 = .ok (.aload_n 0, 1) := by decide +kernel
theorem dX5_reckonBy_19 : decode cX5_reckonBy 19 = .ok (.getfield 136, 3) := by decide +kernel
theorem dX5_reckonBy_22 : decode cX5_reckonBy 22 = .ok (.ifCond .ne 16, 3) := by decide +kernel
theorem dX5_reckonBy_25 : decode cX5_reckonBy 25 = .ok (.aload_n 0, 1) := by decide +kernel
theorem dX5_reckonBy_26 : decode cX5_reckonBy 26 = .ok (.iload_n 2, 1) := by decide +kernel
theorem dX5_reckonBy_27 : decode cX5_reckonBy 27 = .ok (.aload_n 0, 1) := by decide +kernel
theorem dX5_reckonBy_28 : decode cX5_reckonBy 28 = .ok (.getfield 133, 3) := by decide +kernel
theorem dX5_reckonBy_31 : decode cX5_reckonBy 31 = .ok (.ishl, 1) := by decide +kernel
theorem dX5_reckonBy_32 : decode cX5_reckonBy 32 = .ok (.invokevirtual 145, 3) := by decide +kernel
theorem dX5_reckonBy_35 : decode cX5_reckonBy 35 = .ok (.goto 7, 3) := by decide +kernel
theorem dX5_reckonBy_38 : decode cX5_reckonBy 38 = .ok (.aload_n 0, 1) := by decide +kernel
theorem dX5_reckonBy_39 : decode cX5_reckonBy 39 = .ok (.invokevirtual 156, 3) := by decide +kernel
theorem dX5_reckonBy_42 : decode cX5_reckonBy 42 = .ok (.ireturn, 1) := by decide +kernel
theorem dX5_reckonBy_43 : decode cX5_reckonBy 43 = .ok (.aload_n 0, 1) := by decide +kernel
theorem dX5_reckonBy_44 : decode cX5_reckonBy 44 = .ok (.getfield 127, 3) := by decide +kernel
theorem dX5_reckonBy_47 : decode cX5_reckonBy 47 = .ok (.iconst 5, 1) := by decide +kernel
theorem dX5_reckonBy_48 : decode cX5_reckonBy 48 = .ok (.if_icmp .ne 50, 3) := by decide +kernel
theorem dX5_reckonBy_51 : decode cX5_reckonBy 51 = .ok (.aload_n 0, 1) := by decide +kernel
theorem dX5_reckonBy_52 : decode cX5_reckonBy 52 = .ok (.getfield 136, 3) := by decide +kernel
theorem dX5_reckonBy_55 : decode cX5_reckonBy 55 = .ok (.ifCond .ne 16, 3) := by decide +kernel
theorem dX5_reckonBy_58 : decode cX5_reckonBy 58 = .ok (.aload_n 0, 1) := by decide +kernel
theorem dX5_reckonBy_59 : decode cX5_reckonBy 59 = .ok (.iload_n 2, 1) := by decide +kernel
theorem dX5_reckonBy_60 : decode cX5_reckonBy 60 = .ok (.aload_n 0, 1) := by decide +kernel
theorem dX5_reckonBy_61 : decode cX5_reckonBy 61 = .ok (.getfield 133, 3) := by decide +kernel
theorem dX5_reckonBy_64 : decode cX5_reckonBy 64 = .ok (.iushr, 1) := by decide +kernel
theorem dX5_reckonBy_65 : decode cX5_reckonBy 65 = .ok (.invokevirtual 145, 3) := by decide +kernel
theorem dX5_reckonBy_68 : decode cX5_reckonBy 68 = .ok (.goto 29, 3) := by decide +kernel
theorem dX5_reckonBy_71 : decode cX5_reckonBy 71 = .ok (.aload_n 0, 1) := by decide +kernel
theorem dX5_reckonBy_72 : decode cX5_reckonBy 72 = .ok (.getfield 136, 3) := by decide +kernel
theorem dX5_reckonBy_75 : decode cX5_reckonBy 75 = .ok (.bipush 32, 2) := by decide +kernel
theorem dX5_reckonBy_77 : decode cX5_reckonBy 77 = .ok (.if_icmp .ne 16, 3) := by decide +kernel
theorem dX5_reckonBy_80 : decode cX5_reckonBy 80 = .ok (.aload_n 0, 1) := by decide +kernel
theorem dX5_reckonBy_81 : decode cX5_reckonBy 81 = .ok (.iload_n 2, 1) := by decide +kernel
theorem dX5_reckonBy_82 : decode cX5_reckonBy 82 = .ok (.aload_n 0, 1) := by decide +kernel
theorem dX5_reckonBy_83 : decode cX5_reckonBy 83 = .ok (.getfield 133, 3) := by decide +kernel
theorem dX5_reckonBy_86 : decode cX5_reckonBy 86 = .ok (.ishr, 1) := by decide +kernel
theorem dX5_reckonBy_87 : decode cX5_reckonBy 87 = .ok (.invokevirtual 145, 3) := by decide +kernel
theorem dX5_reckonBy_90 : decode cX5_reckonBy 90 = .ok (.goto 7, 3) := by decide +kernel
theorem dX5_reckonBy_93 : decode cX5_reckonBy 93 = .ok (.aload_n 0, 1) := by decide +kernel
theorem dX5_reckonBy_94 : decode cX5_reckonBy 94 = .ok (.invokevirtual 156, 3) := by decide +kernel
theorem dX5_reckonBy_97 : decode cX5_reckonBy 97 = .ok (.ireturn, 1) := by decide +kernel
theorem dX5_reckonBy_98 : decode cX5_reckonBy 98 = .ok (.aload_n 0, 1) := by decide +kernel
theorem dX5_reckonBy_99 : decode cX5_reckonBy 99 = .ok (.aload_n 0, 1) := by decide +kernel
theorem dX5_reckonBy_100 : decode cX5_reckonBy 100 = .ok (.iload_n 2, 1) := by decide +kernel
theorem dX5_reckonBy_101 : decode cX5_reckonBy 101 = .ok (.iload_n 1, 1) := by decide +kernel
theorem dX5_reckonBy_102 : decode cX5_reckonBy 102 = .ok (.invokevirtual 202, 3) := by decide +kernel
theorem dX5_reckonBy_105 : decode cX5_reckonBy 105 = .ok (.invokevirtual 145, 3) := by decide +kernel
theorem dX5_reckonBy_108 : decode cX5_reckonBy 108 = .ok (.ireturn, 1) := by decide +kernel
theorem dX5_reckon_0 : decode cX5_reckon 0 = .ok (.aload_n 0, 1) := by decide +kernel
theorem dX5_reckon_1 : decode cX5_reckon 1 = .ok (.getfield 127, 3) := by decide +kernel
theorem dX5_reckon_4 : decode cX5_reckon 4 = .ok (.tableswitch 95 0 6 #[44, 48, 55, 66, 80, 84, 91], 44) := by decide +kernel
theorem dX5_reckon_48 : decode cX5_reckon 48 = .ok (.iload_n 1, 1) := by decide +kernel
theorem dX5_reckon_49 : decode cX5_reckon 49 = .ok (.iload_n 2, 1) := by decide +kernel
theorem dX5_reckon_50 : decode cX5_reckon 50 = .ok (.iadd, 1) := by decide +kernel
theorem dX5_reckon_51 : decode cX5_reckon 51 = .ok (.ireturn, 1) := by decide +kernel
theorem dX5_reckon_52 : decode cX5_reckon 52 = .ok (.iload_n 1, 1) := by decide +kernel
theorem dX5_reckon_53 : decode cX5_reckon 53 = .ok (.iload_n 2, 1) := by decide +kernel
theorem dX5_reckon_54 : decode cX5_reckon 54 = .ok (.bipush 31, 2) := by decide +kernel
theorem dX5_reckon_56 : decode cX5_reckon 56 = .ok (.iand, 1) := by decide +kernel
theorem dX5_reckon_57 : decode cX5_reckon 57 = .ok (.ishl, 1) := by decide +kernel
theorem dX5_reckon_58 : decode cX5_reckon 58 = .ok (.ireturn, 1) := by decide +kernel
theorem dX5_reckon_59 : decode cX5_reckon 59 = .ok (.iload_n 1, 1) := by decide +kernel
theorem dX5_reckon_60 : decode cX5_reckon 60 = .ok (.iload_n 2, 1) := by decide +kernel
theorem dX5_reckon_61 : decode cX5_reckon 61 = .ok (.if_icmp .ge 7, 3) := by decide +kernel
theorem dX5_reckon_64 : decode cX5_reckon 64 = .ok (.iconst 1, 1) := by decide +kernel
theorem dX5_reckon_65 : decode cX5_reckon 65 = .ok (.goto 4, 3) := by decide +kernel
theorem dX5_reckon_68 : decode cX5_reckon 68 = .ok (.iconst 0, 1) := by decide +kernel
theorem dX5_reckon_69 : decode cX5_reckon 69 = .ok (.ireturn, 1) := by decide +kernel
theorem dX5_reckon_70 : decode cX5_reckon 70 = .ok (.iload_n 1, 1) := by decide +kernel
theorem dX5_reckon_71 : decode cX5_reckon 71 = .ok (.iload_n 2, 1) := by decide +kernel
theorem dX5_reckon_72 : decode cX5_reckon 72 = .ok (.invokestatic 181, 3) := by decide +kernel
theorem dX5_reckon_75 : decode cX5_reckon 75 = .ok (.ifCond .eq 7, 3) := by decide +kernel
theorem dX5_reckon_78 : decode cX5_reckon 78 = .ok (.iconst 1, 1) := by decide +kernel
theorem dX5_reckon_79 : decode cX5_reckon 79 = .ok (.goto 4, 3) := by decide +kernel
theorem dX5_reckon_82 : decode cX5_reckon 82 = .ok (.iconst 0, 1) := by decide +kernel
theorem dX5_reckon_83 : decode cX5_reckon 83 = .ok (.ireturn, 1) := by decide +kernel
theorem dX5_reckon_84 : decode cX5_reckon 84 = .ok (.iload_n 1, 1) := by decide +kernel
theorem dX5_reckon_85 : decode cX5_reckon 85 = .ok (.iload_n 2, 1) := by decide +kernel
theorem dX5_reckon_86 : decode cX5_reckon 86 = .ok (.ixor, 1) := by decide +kernel
theorem dX5_reckon_87 : decode cX5_reckon 87 = .ok (.ireturn, 1) := by decide +kernel
theorem dX5_reckon_88 : decode cX5_reckon 88 = .ok (.iload_n 1, 1) := by decide +kernel
theorem dX5_reckon_89 : decode cX5_reckon 89 = .ok (.iload_n 2, 1) := by decide +kernel
theorem dX5_reckon_90 : decode cX5_reckon 90 = .ok (.bipush 31, 2) := by decide +kernel
theorem dX5_reckon_92 : decode cX5_reckon 92 = .ok (.iand, 1) := by decide +kernel
theorem dX5_reckon_93 : decode cX5_reckon 93 = .ok (.iushr, 1) := by decide +kernel
theorem dX5_reckon_94 : decode cX5_reckon 94 = .ok (.ireturn, 1) := by decide +kernel
theorem dX5_reckon_95 : decode cX5_reckon 95 = .ok (.iload_n 1, 1) := by decide +kernel
theorem dX5_reckon_96 : decode cX5_reckon 96 = .ok (.iload_n 2, 1) := by decide +kernel
theorem dX5_reckon_97 : decode cX5_reckon 97 = .ok (.ior, 1) := by decide +kernel
theorem dX5_reckon_98 : decode cX5_reckon 98 = .ok (.ireturn, 1) := by decide +kernel
theorem dX5_reckon_99 : decode cX5_reckon 99 = .ok (.iload_n 1, 1) := by decide +kernel
theorem dX5_reckon_100 : decode cX5_reckon 100 = .ok (.iload_n 2, 1) := by decide +kernel
theorem dX5_reckon_101 : decode cX5_reckon 101 = .ok (.iand, 1) := by decide +kernel
theorem dX5_reckon_102 : decode cX5_reckon 102 = .ok (.ireturn, 1) := by decide +kernel
theorem dX5_reckonTwo_0 : decode cX5_reckonTwo 0 = .ok (.aload_n 0, 1) := by decide +kernel
theorem dX5_reckonTwo_1 : decode cX5_reckonTwo 1 = .ok (.getfield 14, 3) := by decide +kernel
theorem dX5_reckonTwo_4 : decode cX5_reckonTwo 4 = .ok (.aload_n 0, 1) := by decide +kernel
theorem dX5_reckonTwo_5 : decode cX5_reckonTwo 5 = .ok (.getfield 130, 3) := by decide +kernel
theorem dX5_reckonTwo_8 : decode cX5_reckonTwo 8 = .ok (.iaload, 1) := by decide +kernel
theorem dX5_reckonTwo_9 : decode cX5_reckonTwo 9 = .ok (.istore_n 1, 1) := by decide +kernel
theorem dX5_reckonTwo_10 : decode cX5_reckonTwo 10 = .ok (.aload_n 0, 1) := by decide +kernel
theorem dX5_reckonTwo_11 : decode cX5_reckonTwo 11 = .ok (.getfield 14, 3) := by decide +kernel
theorem dX5_reckonTwo_14 : decode cX5_reckonTwo 14 = .ok (.aload_n 0, 1) := by decide +kernel
theorem dX5_reckonTwo_15 : decode cX5_reckonTwo 15 = .ok (.getfield 133, 3) := by decide +kernel
theorem dX5_reckonTwo_18 : decode cX5_reckonTwo 18 = .ok (.iaload, 1) := by decide +kernel
theorem dX5_reckonTwo_19 : decode cX5_reckonTwo 19 = .ok (.istore_n 2, 1) := by decide +kernel
theorem dX5_reckonTwo_20 : decode cX5_reckonTwo 20 = .ok (.aload_n 0, 1) := by decide +kernel
theorem dX5_reckonTwo_21 : decode cX5_reckonTwo 21 = .ok (.getfield 136, 3) := by decide +kernel
theorem dX5_reckonTwo_24 : decode cX5_reckonTwo 24 = .ok (.iconst 1, 1) := by decide +kernel
theorem dX5_reckonTwo_25 : decode cX5_reckonTwo 25 = .ok (.if_icmp .ne 14, 3) := by decide +kernel
theorem dX5_reckonTwo_28 : decode cX5_reckonTwo 28 = .ok (.aload_n 0, 1) := by decide +kernel
theorem dX5_reckonTwo_29 : decode cX5_reckonTwo 29 = .ok (.aload_n 0, 1) := by decide +kernel
theorem dX5_reckonTwo_30 : decode cX5_reckonTwo 30 = .ok (.iload_n 1, 1) := by decide +kernel
theorem dX5_reckonTwo_31 : decode cX5_reckonTwo 31 = .ok (.iload_n 2, 1) := by decide +kernel
theorem dX5_reckonTwo_32 : decode cX5_reckonTwo 32 = .ok (.invokevirtual 205, 3) := by decide +kernel
theorem dX5_reckonTwo_35 : decode cX5_reckonTwo 35 = .ok (.invokevirtual 145, 3) := by decide +kernel
theorem dX5_reckonTwo_38 : decode cX5_reckonTwo 38 = .ok (.ireturn, 1) := by decide +kernel
theorem dX5_reckonTwo_39 : decode cX5_reckonTwo 39 = .ok (.aload_n 0, 1) := by decide +kernel
theorem dX5_reckonTwo_40 : decode cX5_reckonTwo 40 = .ok (.getfield 136, 3) := by decide +kernel
theorem dX5_reckonTwo_43 : decode cX5_reckonTwo 43 = .ok (.ifCond .ne 14, 3) := by decide +kernel
theorem dX5_reckonTwo_46 : decode cX5_reckonTwo 46 = .ok (.aload_n 0, 1) := by decide +kernel
theorem dX5_reckonTwo_47 : decode cX5_reckonTwo 47 = .ok (.aload_n 0, 1) := by decide +kernel
theorem dX5_reckonTwo_48 : decode cX5_reckonTwo 48 = .ok (.iload_n 1, 1) := by decide +kernel
theorem dX5_reckonTwo_49 : decode cX5_reckonTwo 49 = .ok (.iload_n 2, 1) := by decide +kernel
theorem dX5_reckonTwo_50 : decode cX5_reckonTwo 50 = .ok (.invokevirtual 202, 3) := by decide +kernel
theorem dX5_reckonTwo_53 : decode cX5_reckonTwo 53 = .ok (.invokevirtual 145, 3) := by decide +kernel
theorem dX5_reckonTwo_56 : decode cX5_reckonTwo 56 = .ok (.ireturn, 1) := by decide +kernel
theorem dX5_reckonTwo_57 : decode cX5_reckonTwo 57 = .ok (.aload_n 0, 1) := by decide +kernel
theorem dX5_reckonTwo_58 : decode cX5_reckonTwo 58 = .ok (.getfield 136, 3) := by decide +kernel
theorem dX5_reckonTwo_61 : decode cX5_reckonTwo 61 = .ok (.bipush 32, 2) := by decide +kernel
theorem dX5_reckonTwo_63 : decode cX5_reckonTwo 63 = .ok (.if_icmp .ne 18, 3) := by decide +kernel
theorem dX5_reckonTwo_66 : decode cX5_reckonTwo 66 = .ok (.aload_n 0, 1) := by decide +kernel
theorem dX5_reckonTwo_67 : decode cX5_reckonTwo 67 = .ok (.getfield 127, 3) := by decide +kernel
theorem dX5_reckonTwo_70 : decode cX5_reckonTwo 70 = .ok (.ifCond .ne 11, 3) := by decide +kernel
theorem dX5_reckonTwo_73 : decode cX5_reckonTwo 73 = .ok (.aload_n 0, 1) := by decide +kernel
theorem dX5_reckonTwo_74 : decode cX5_reckonTwo 74 = .ok (.iload_n 1, 1) := by decide +kernel
theorem dX5_reckonTwo_75 : decode cX5_reckonTwo 75 = .ok (.iload_n 2, 1) := by decide +kernel
theorem dX5_reckonTwo_76 : decode cX5_reckonTwo 76 = .ok (.isub, 1) := by decide +kernel
theorem dX5_reckonTwo_77 : decode cX5_reckonTwo 77 = .ok (.invokevirtual 145, 3) := by decide +kernel
theorem dX5_reckonTwo_80 : decode cX5_reckonTwo 80 = .ok (.ireturn, 1) := by decide +kernel
theorem dX5_reckonTwo_81 : decode cX5_reckonTwo 81 = .ok (.aload_n 0, 1) := by decide +kernel
theorem dX5_reckonTwo_82 : decode cX5_reckonTwo 82 = .ok (.getfield 136, 3) := by decide +kernel
theorem dX5_reckonTwo_85 : decode cX5_reckonTwo 85 = .ok (.bipush 32, 2) := by decide +kernel
theorem dX5_reckonTwo_87 : decode cX5_reckonTwo 87 = .ok (.if_icmp .ne 24, 3) := by decide +kernel
theorem dX5_reckonTwo_90 : decode cX5_reckonTwo 90 = .ok (.aload_n 0, 1) := by decide +kernel
theorem dX5_reckonTwo_91 : decode cX5_reckonTwo 91 = .ok (.getfield 127, 3) := by decide +kernel
theorem dX5_reckonTwo_94 : decode cX5_reckonTwo 94 = .ok (.iconst 5, 1) := by decide +kernel
theorem dX5_reckonTwo_95 : decode cX5_reckonTwo 95 = .ok (.if_icmp .ne 16, 3) := by decide +kernel
theorem dX5_reckonTwo_98 : decode cX5_reckonTwo 98 = .ok (.aload_n 0, 1) := by decide +kernel
theorem dX5_reckonTwo_99 : decode cX5_reckonTwo 99 = .ok (.iload_n 1, 1) := by decide +kernel
theorem dX5_reckonTwo_100 : decode cX5_reckonTwo 100 = .ok (.iload_n 2, 1) := by decide +kernel
theorem dX5_reckonTwo_101 : decode cX5_reckonTwo 101 = .ok (.bipush 31, 2) := by decide +kernel
theorem dX5_reckonTwo_103 : decode cX5_reckonTwo 103 = .ok (.iand, 1) := by decide +kernel
theorem dX5_reckonTwo_104 : decode cX5_reckonTwo 104 = .ok (.ishr, 1) := by decide +kernel
theorem dX5_reckonTwo_105 : decode cX5_reckonTwo 105 = .ok (.invokevirtual 145, 3) := by decide +kernel
theorem dX5_reckonTwo_108 : decode cX5_reckonTwo 108 = .ok (.goto 7, 3) := by decide +kernel
theorem dX5_reckonTwo_111 : decode cX5_reckonTwo 111 = .ok (.aload_n 0, 1) := by decide +kernel
theorem dX5_reckonTwo_112 : decode cX5_reckonTwo 112 = .ok (.invokevirtual 156, 3) := by decide +kernel
theorem dX5_reckonTwo_115 : decode cX5_reckonTwo 115 = .ok (.ireturn, 1) := by decide +kernel
theorem dX5_multiplied_0 : decode cX5_multiplied 0 = .ok (.iload_n 1, 1) := by decide +kernel
theorem dX5_multiplied_1 : decode cX5_multiplied 1 = .ok (.i2l, 1) := by decide +kernel
theorem dX5_multiplied_2 : decode cX5_multiplied 2 = .ok (.ldc2_w 196, 3) := by decide +kernel
theorem dX5_multiplied_5 : decode cX5_multiplied 5 = .ok (.land, 1) := by decide +kernel
theorem dX5_multiplied_6 : decode cX5_multiplied 6 = .ok (.lstore_n 3, 1) := by decide +kernel
theorem dX5_multiplied_7 : decode cX5_multiplied 7 = .ok (.iload_n 2, 1) := by decide +kernel
theorem dX5_multiplied_8 : decode cX5_multiplied 8 = .ok (.i2l, 1) := by decide +kernel
theorem dX5_multiplied_9 : decode cX5_multiplied 9 = .ok (.ldc2_w 196, 3) := by decide +kernel
theorem dX5_multiplied_12 : decode cX5_multiplied 12 = .ok (.land, 1) := by decide +kernel
theorem dX5_multiplied_13 : decode cX5_multiplied 13 = .ok (.lstore 5, 2) := by decide +kernel
theorem dX5_multiplied_15 : decode cX5_multiplied 15 = .ok (.aload_n 0, 1) := by decide +kernel
theorem dX5_multiplied_16 : decode cX5_multiplied 16 = .ok (.getfield 127, 3) := by decide +kernel
theorem dX5_multiplied_19 : decode cX5_multiplied 19 = .ok (.tableswitch 131 0 6 #[41, 45, 55, 65, 74, 96, 110], 41) := by decide +kernel
theorem dX5_multiplied_60 : decode cX5_multiplied 60 = .ok (.iload_n 1, 1) := by decide +kernel
theorem dX5_multiplied_61 : decode cX5_multiplied 61 = .ok (.iload_n 2, 1) := by decide +kernel
theorem dX5_multiplied_62 : decode cX5_multiplied 62 = .ok (.imul, 1) := by decide +kernel
theorem dX5_multiplied_63 : decode cX5_multiplied 63 = .ok (.ireturn, 1) := by decide +kernel
theorem dX5_multiplied_64 : decode cX5_multiplied 64 = .ok (.iload_n 1, 1) := by decide +kernel
theorem dX5_multiplied_65 : decode cX5_multiplied 65 = .ok (.i2l, 1) := by decide +kernel
theorem dX5_multiplied_66 : decode cX5_multiplied 66 = .ok (.iload_n 2, 1) := by decide +kernel
theorem dX5_multiplied_67 : decode cX5_multiplied 67 = .ok (.i2l, 1) := by decide +kernel
theorem dX5_multiplied_68 : decode cX5_multiplied 68 = .ok (.lmul, 1) := by decide +kernel
theorem dX5_multiplied_69 : decode cX5_multiplied 69 = .ok (.bipush 32, 2) := by decide +kernel
theorem dX5_multiplied_71 : decode cX5_multiplied 71 = .ok (.lshr, 1) := by decide +kernel
theorem dX5_multiplied_72 : decode cX5_multiplied 72 = .ok (.l2i, 1) := by decide +kernel
theorem dX5_multiplied_73 : decode cX5_multiplied 73 = .ok (.ireturn, 1) := by decide +kernel
theorem dX5_multiplied_74 : decode cX5_multiplied 74 = .ok (.iload_n 1, 1) := by decide +kernel
theorem dX5_multiplied_75 : decode cX5_multiplied 75 = .ok (.i2l, 1) := by decide +kernel
theorem dX5_multiplied_76 : decode cX5_multiplied 76 = .ok (.lload 5, 2) := by decide +kernel
theorem dX5_multiplied_78 : decode cX5_multiplied 78 = .ok (.lmul, 1) := by decide +kernel
theorem dX5_multiplied_79 : decode cX5_multiplied 79 = .ok (.bipush 32, 2) := by decide +kernel
theorem dX5_multiplied_81 : decode cX5_multiplied 81 = .ok (.lshr, 1) := by decide +kernel
theorem dX5_multiplied_82 : decode cX5_multiplied 82 = .ok (.l2i, 1) := by decide +kernel
theorem dX5_multiplied_83 : decode cX5_multiplied 83 = .ok (.ireturn, 1) := by decide +kernel
theorem dX5_multiplied_84 : decode cX5_multiplied 84 = .ok (.lload_n 3, 1) := by decide +kernel
theorem dX5_multiplied_85 : decode cX5_multiplied 85 = .ok (.lload 5, 2) := by decide +kernel
theorem dX5_multiplied_87 : decode cX5_multiplied 87 = .ok (.lmul, 1) := by decide +kernel
theorem dX5_multiplied_88 : decode cX5_multiplied 88 = .ok (.bipush 32, 2) := by decide +kernel
theorem dX5_multiplied_90 : decode cX5_multiplied 90 = .ok (.lshr, 1) := by decide +kernel
theorem dX5_multiplied_91 : decode cX5_multiplied 91 = .ok (.l2i, 1) := by decide +kernel
theorem dX5_multiplied_92 : decode cX5_multiplied 92 = .ok (.ireturn, 1) := by decide +kernel
theorem dX5_multiplied_93 : decode cX5_multiplied 93 = .ok (.iload_n 2, 1) := by decide +kernel
theorem dX5_multiplied_94 : decode cX5_multiplied 94 = .ok (.ifCond .ne 7, 3) := by decide +kernel
theorem dX5_multiplied_97 : decode cX5_multiplied 97 = .ok (.iconst (-1), 1) := by decide +kernel
theorem dX5_multiplied_98 : decode cX5_multiplied 98 = .ok (.goto 16, 3) := by decide +kernel
theorem dX5_multiplied_101 : decode cX5_multiplied 101 = .ok (.iload_n 2, 1) := by decide +kernel
theorem dX5_multiplied_102 : decode cX5_multiplied 102 = .ok (.iconst (-1), 1) := by decide +kernel
theorem dX5_multiplied_103 : decode cX5_multiplied 103 = .ok (.if_icmp .ne 8, 3) := by decide +kernel
theorem dX5_multiplied_106 : decode cX5_multiplied 106 = .ok (.iload_n 1, 1) := by decide +kernel
theorem dX5_multiplied_107 : decode cX5_multiplied 107 = .ok (.ineg, 1) := by decide +kernel
theorem dX5_multiplied_108 : decode cX5_multiplied 108 = .ok (.goto 6, 3) := by decide +kernel
theorem dX5_multiplied_111 : decode cX5_multiplied 111 = .ok (.iload_n 1, 1) := by decide +kernel
theorem dX5_multiplied_112 : decode cX5_multiplied 112 = .ok (.iload_n 2, 1) := by decide +kernel
theorem dX5_multiplied_113 : decode cX5_multiplied 113 = .ok (.idiv, 1) := by decide +kernel
theorem dX5_multiplied_114 : decode cX5_multiplied 114 = .ok (.ireturn, 1) := by decide +kernel
theorem dX5_multiplied_115 : decode cX5_multiplied 115 = .ok (.iload_n 2, 1) := by decide +kernel
theorem dX5_multiplied_116 : decode cX5_multiplied 116 = .ok (.ifCond .ne 7, 3) := by decide +kernel
theorem dX5_multiplied_119 : decode cX5_multiplied 119 = .ok (.iconst (-1), 1) := by decide +kernel
theorem dX5_multiplied_120 : decode cX5_multiplied 120 = .ok (.goto 8, 3) := by decide +kernel
theorem dX5_multiplied_123 : decode cX5_multiplied 123 = .ok (.lload_n 3, 1) := by decide +kernel
theorem dX5_multiplied_124 : decode cX5_multiplied 124 = .ok (.lload 5, 2) := by decide +kernel
theorem dX5_multiplied_126 : decode cX5_multiplied 126 = .ok (.ldiv, 1) := by decide +kernel
theorem dX5_multiplied_127 : decode cX5_multiplied 127 = .ok (.l2i, 1) := by decide +kernel
theorem dX5_multiplied_128 : decode cX5_multiplied 128 = .ok (.ireturn, 1) := by decide +kernel
theorem dX5_multiplied_129 : decode cX5_multiplied 129 = .ok (.iload_n 2, 1) := by decide +kernel
theorem dX5_multiplied_130 : decode cX5_multiplied 130 = .ok (.ifCond .ne 7, 3) := by decide +kernel
theorem dX5_multiplied_133 : decode cX5_multiplied 133 = .ok (.iload_n 1, 1) := by decide +kernel
theorem dX5_multiplied_134 : decode cX5_multiplied 134 = .ok (.goto 15, 3) := by decide +kernel
theorem dX5_multiplied_137 : decode cX5_multiplied 137 = .ok (.iload_n 2, 1) := by decide +kernel
theorem dX5_multiplied_138 : decode cX5_multiplied 138 = .ok (.iconst (-1), 1) := by decide +kernel
theorem dX5_multiplied_139 : decode cX5_multiplied 139 = .ok (.if_icmp .ne 7, 3) := by decide +kernel
theorem dX5_multiplied_142 : decode cX5_multiplied 142 = .ok (.iconst 0, 1) := by decide +kernel
theorem dX5_multiplied_143 : decode cX5_multiplied 143 = .ok (.goto 6, 3) := by decide +kernel
theorem dX5_multiplied_146 : decode cX5_multiplied 146 = .ok (.iload_n 1, 1) := by decide +kernel
theorem dX5_multiplied_147 : decode cX5_multiplied 147 = .ok (.iload_n 2, 1) := by decide +kernel
theorem dX5_multiplied_148 : decode cX5_multiplied 148 = .ok (.irem, 1) := by decide +kernel
theorem dX5_multiplied_149 : decode cX5_multiplied 149 = .ok (.ireturn, 1) := by decide +kernel
theorem dX5_multiplied_150 : decode cX5_multiplied 150 = .ok (.iload_n 2, 1) := by decide +kernel
theorem dX5_multiplied_151 : decode cX5_multiplied 151 = .ok (.ifCond .ne 7, 3) := by decide +kernel
theorem dX5_multiplied_154 : decode cX5_multiplied 154 = .ok (.iload_n 1, 1) := by decide +kernel
theorem dX5_multiplied_155 : decode cX5_multiplied 155 = .ok (.goto 8, 3) := by decide +kernel
theorem dX5_multiplied_158 : decode cX5_multiplied 158 = .ok (.lload_n 3, 1) := by decide +kernel
theorem dX5_multiplied_159 : decode cX5_multiplied 159 = .ok (.lload 5, 2) := by decide +kernel
theorem dX5_multiplied_161 : decode cX5_multiplied 161 = .ok (.lrem, 1) := by decide +kernel
theorem dX5_multiplied_162 : decode cX5_multiplied 162 = .ok (.l2i, 1) := by decide +kernel
theorem dX5_multiplied_163 : decode cX5_multiplied 163 = .ok (.ireturn, 1) := by decide +kernel
theorem dX5_system_0 : decode cX5_system 0 = .ok (.aload_n 0, 1) := by decide +kernel
theorem dX5_system_1 : decode cX5_system 1 = .ok (.getfield 118, 3) := by decide +kernel
theorem dX5_system_4 : decode cX5_system 4 = .ok (.lookupswitch 92 #[(115, 44), (1048691, 52), (273678451, 85), (807403635, 62)], 44) := by decide +kernel
theorem dX5_system_48 : decode cX5_system 48 = .ok (.aload_n 0, 1) := by decide +kernel
theorem dX5_system_49 : decode cX5_system 49 = .ok (.bipush 11, 2) := by decide +kernel
theorem dX5_system_51 : decode cX5_system 51 = .ok (.iconst 0, 1) := by decide +kernel
theorem dX5_system_52 : decode cX5_system 52 = .ok (.invokevirtual 104, 3) := by decide +kernel
theorem dX5_system_55 : decode cX5_system 55 = .ok (.ireturn, 1) := by decide +kernel
theorem dX5_system_56 : decode cX5_system 56 = .ok (.aload_n 0, 1) := by decide +kernel
theorem dX5_system_57 : decode cX5_system 57 = .ok (.iconst 3, 1) := by decide +kernel
theorem dX5_system_58 : decode cX5_system 58 = .ok (.aload_n 0, 1) := by decide +kernel
theorem dX5_system_59 : decode cX5_system 59 = .ok (.getfield 30, 3) := by decide +kernel
theorem dX5_system_62 : decode cX5_system 62 = .ok (.invokevirtual 104, 3) := by decide +kernel
theorem dX5_system_65 : decode cX5_system 65 = .ok (.ireturn, 1) := by decide +kernel
theorem dX5_system_66 : decode cX5_system 66 = .ok (.aload_n 0, 1) := by decide +kernel
theorem dX5_system_67 : decode cX5_system 67 = .ok (.aload_n 0, 1) := by decide +kernel
theorem dX5_system_68 : decode cX5_system 68 = .ok (.getfield 49, 3) := by decide +kernel
theorem dX5_system_71 : decode cX5_system 71 = .ok (.putfield 139, 3) := by decide +kernel
theorem dX5_system_74 : decode cX5_system 74 = .ok (.aload_n 0, 1) := by decide +kernel
theorem dX5_system_75 : decode cX5_system 75 = .ok (.aload_n 0, 1) := by decide +kernel
theorem dX5_system_76 : decode cX5_system 76 = .ok (.getfield 37, 3) := by decide +kernel
theorem dX5_system_79 : decode cX5_system 79 = .ok (.putfield 33, 3) := by decide +kernel
theorem dX5_system_82 : decode cX5_system 82 = .ok (.aload_n 0, 1) := by decide +kernel
theorem dX5_system_83 : decode cX5_system 83 = .ok (.iconst 1, 1) := by decide +kernel
theorem dX5_system_84 : decode cX5_system 84 = .ok (.putfield 37, 3) := by decide +kernel
theorem dX5_system_87 : decode cX5_system 87 = .ok (.iconst (-1), 1) := by decide +kernel
theorem dX5_system_88 : decode cX5_system 88 = .ok (.ireturn, 1) := by decide +kernel
theorem dX5_system_89 : decode cX5_system 89 = .ok (.aload_n 0, 1) := by decide +kernel
theorem dX5_system_90 : decode cX5_system 90 = .ok (.iconst 1, 1) := by decide +kernel
theorem dX5_system_91 : decode cX5_system 91 = .ok (.putfield 73, 3) := by decide +kernel
theorem dX5_system_94 : decode cX5_system 94 = .ok (.iconst (-1), 1) := by decide +kernel
theorem dX5_system_95 : decode cX5_system 95 = .ok (.ireturn, 1) := by decide +kernel
theorem dX5_system_96 : decode cX5_system 96 = .ok (.aload_n 0, 1) := by decide +kernel
theorem dX5_system_97 : decode cX5_system 97 = .ok (.invokevirtual 156, 3) := by decide +kernel
theorem dX5_system_100 : decode cX5_system 100 = .ok (.ireturn, 1) := by decide +kernel
theorem dX5_control_0 : decode cX5_control 0 = .ok (.aload_n 0, 1) := by decide +kernel
theorem dX5_control_1 : decode cX5_control 1 = .ok (.getfield 118, 3) := by decide +kernel
theorem dX5_control_4 : decode cX5_control 4 = .ok (.bipush 20, 2) := by decide +kernel
theorem dX5_control_6 : decode cX5_control 6 = .ok (.ishr, 1) := by decide +kernel
theorem dX5_control_7 : decode cX5_control 7 = .ok (.sipush 4095, 3) := by decide +kernel
theorem dX5_control_10 : decode cX5_control 10 = .ok (.iand, 1) := by decide +kernel
theorem dX5_control_11 : decode cX5_control 11 = .ok (.istore_n 1, 1) := by decide +kernel
theorem dX5_control_12 : decode cX5_control 12 = .ok (.aload_n 0, 1) := by decide +kernel
theorem dX5_control_13 : decode cX5_control 13 = .ok (.getfield 127, 3) := by decide +kernel
theorem dX5_control_16 : decode cX5_control 16 = .ok (.iconst 3, 1) := by decide +kernel
theorem dX5_control_17 : decode cX5_control 17 = .ok (.iand, 1) := by decide +kernel
theorem dX5_control_18 : decode cX5_control 18 = .ok (.istore_n 2, 1) := by decide +kernel
theorem dX5_control_19 : decode cX5_control 19 = .ok (.iload_n 2, 1) := by decide +kernel
theorem dX5_control_20 : decode cX5_control 20 = .ok (.iconst 1, 1) := by decide +kernel
theorem dX5_control_21 : decode cX5_control 21 = .ok (.if_icmp .eq 10, 3) := by decide +kernel
theorem dX5_control_24 : decode cX5_control 24 = .ok (.aload_n 0, 1) := by decide +kernel
theorem dX5_control_25 : decode cX5_control 25 = .ok (.getfield 130, 3) := by decide +kernel
theorem dX5_control_28 : decode cX5_control 28 = .ok (.ifCond .eq 7, 3) := by decide +kernel
theorem dX5_control_31 : decode cX5_control 31 = .ok (.iconst 1, 1) := by decide +kernel
theorem dX5_control_32 : decode cX5_control 32 = .ok (.goto 4, 3) := by decide +kernel
theorem dX5_control_35 : decode cX5_control 35 = .ok (.iconst 0, 1) := by decide +kernel
theorem dX5_control_36 : decode cX5_control 36 = .ok (.istore_n 3, 1) := by decide +kernel
theorem dX5_control_37 : decode cX5_control 37 = .ok (.aload_n 0, 1) := by decide +kernel
theorem dX5_control_38 : decode cX5_control 38 = .ok (.getfield 127, 3) := by decide +kernel
theorem dX5_control_41 : decode cX5_control 41 = .ok (.iconst 4, 1) := by decide +kernel
theorem dX5_control_42 : decode cX5_control 42 = .ok (.if_icmp .eq 21, 3) := by decide +kernel
theorem dX5_control_45 : decode cX5_control 45 = .ok (.iload_n 1, 1) := by decide +kernel
theorem dX5_control_46 : decode cX5_control 46 = .ok (.invokestatic 208, 3) := by decide +kernel
theorem dX5_control_49 : decode cX5_control 49 = .ok (.ifCond .eq 14, 3) := by decide +kernel
theorem dX5_control_52 : decode cX5_control 52 = .ok (.iload_n 3, 1) := by decide +kernel
theorem dX5_control_53 : decode cX5_control 53 = .ok (.ifCond .eq 15, 3) := by decide +kernel
theorem dX5_control_56 : decode cX5_control 56 = .ok (.iload_n 1, 1) := by decide +kernel
theorem dX5_control_57 : decode cX5_control 57 = .ok (.sipush 3072, 3) := by decide +kernel
theorem dX5_control_60 : decode cX5_control 60 = .ok (.if_icmp .lt 8, 3) := by decide +kernel
theorem dX5_control_63 : decode cX5_control 63 = .ok (.aload_n 0, 1) := by decide +kernel
theorem dX5_control_64 : decode cX5_control 64 = .ok (.invokevirtual 156, 3) := by decide +kernel
theorem dX5_control_67 : decode cX5_control 67 = .ok (.ireturn, 1) := by decide +kernel
theorem dX5_control_68 : decode cX5_control 68 = .ok (.aload_n 0, 1) := by decide +kernel
theorem dX5_control_69 : decode cX5_control 69 = .ok (.iload_n 1, 1) := by decide +kernel
theorem dX5_control_70 : decode cX5_control 70 = .ok (.invokevirtual 99, 3) := by decide +kernel
theorem dX5_control_73 : decode cX5_control 73 = .ok (.istore 4, 2) := by decide +kernel
theorem dX5_control_75 : decode cX5_control 75 = .ok (.aload_n 0, 1) := by decide +kernel
theorem dX5_control_76 : decode cX5_control 76 = .ok (.getfield 127, 3) := by decide +kernel
theorem dX5_control_79 : decode cX5_control 79 = .ok (.iconst 4, 1) := by decide +kernel
theorem dX5_control_80 : decode cX5_control 80 = .ok (.if_icmp .ge 15, 3) := by decide +kernel
theorem dX5_control_83 : decode cX5_control 83 = .ok (.aload_n 0, 1) := by decide +kernel
theorem dX5_control_84 : decode cX5_control 84 = .ok (.getfield 14, 3) := by decide +kernel
theorem dX5_control_87 : decode cX5_control 87 = .ok (.aload_n 0, 1) := by decide +kernel
theorem dX5_control_88 : decode cX5_control 88 = .ok (.getfield 130, 3) := by decide +kernel
theorem dX5_control_91 : decode cX5_control 91 = .ok (.iaload, 1) := by decide +kernel
theorem dX5_control_92 : decode cX5_control 92 = .ok (.goto 7, 3) := by decide +kernel
theorem dX5_control_95 : decode cX5_control 95 = .ok (.aload_n 0, 1) := by decide +kernel
theorem dX5_control_96 : decode cX5_control 96 = .ok (.getfield 130, 3) := by decide +kernel
theorem dX5_control_99 : decode cX5_control 99 = .ok (.istore 5, 2) := by decide +kernel
theorem dX5_control_101 : decode cX5_control 101 = .ok (.iload_n 3, 1) := by decide +kernel
theorem dX5_control_102 : decode cX5_control 102 = .ok (.ifCond .eq 38, 3) := by decide +kernel
theorem dX5_control_105 : decode cX5_control 105 = .ok (.aload_n 0, 1) := by decide +kernel
theorem dX5_control_106 : decode cX5_control 106 = .ok (.iload_n 1, 1) := by decide +kernel
theorem dX5_control_107 : decode cX5_control 107 = .ok (.iload_n 2, 1) := by decide +kernel
theorem dX5_control_108 : decode cX5_control 108 = .ok (.iconst 1, 1) := by decide +kernel
theorem dX5_control_109 : decode cX5_control 109 = .ok (.if_icmp .ne 8, 3) := by decide +kernel
theorem dX5_control_112 : decode cX5_control 112 = .ok (.iload 5, 2) := by decide +kernel
theorem dX5_control_114 : decode cX5_control 114 = .ok (.goto 23, 3) := by decide +kernel
theorem dX5_control_117 : decode cX5_control 117 = .ok (.iload_n 2, 1) := by decide +kernel
theorem dX5_control_118 : decode cX5_control 118 = .ok (.iconst 2, 1) := by decide +kernel
theorem dX5_control_119 : decode cX5_control 119 = .ok (.if_icmp .ne 11, 3) := by decide +kernel
theorem dX5_control_122 : decode cX5_control 122 = .ok (.iload 4, 2) := by decide +kernel
theorem dX5_control_124 : decode cX5_control 124 = .ok (.iload 5, 2) := by decide +kernel
theorem dX5_control_126 : decode cX5_control 126 = .ok (.ior, 1) := by decide +kernel
theorem dX5_control_127 : decode cX5_control 127 = .ok (.goto 10, 3) := by decide +kernel
theorem dX5_control_130 : decode cX5_control 130 = .ok (.iload 4, 2) := by decide +kernel
theorem dX5_control_132 : decode cX5_control 132 = .ok (.iload 5, 2) := by decide +kernel
theorem dX5_control_134 : decode cX5_control 134 = .ok (.iconst (-1), 1) := by decide +kernel
theorem dX5_control_135 : decode cX5_control 135 = .ok (.ixor, 1) := by decide +kernel
theorem dX5_control_136 : decode cX5_control 136 = .ok (.iand, 1) := by decide +kernel
theorem dX5_control_137 : decode cX5_control 137 = .ok (.invokevirtual 211, 3) := by decide +kernel
theorem dX5_control_140 : decode cX5_control 140 = .ok (.aload_n 0, 1) := by decide +kernel
theorem dX5_control_141 : decode cX5_control 141 = .ok (.iload 4, 2) := by decide +kernel
theorem dX5_control_143 : decode cX5_control 143 = .ok (.invokevirtual 145, 3) := by decide +kernel
theorem dX5_control_146 : decode cX5_control 146 = .ok (.ireturn, 1) := by decide +kernel
theorem dX5_reg_0 : decode cX5_reg 0 = .ok (.aload_n 0, 1) := by decide +kernel
theorem dX5_reg_1 : decode cX5_reg 1 = .ok (.getfield 14, 3) := by decide +kernel
theorem dX5_reg_4 : decode cX5_reg 4 = .ok (.iload_n 1, 1) := by decide +kernel
theorem dX5_reg_5 : decode cX5_reg 5 = .ok (.bipush 31, 2) := by decide +kernel
theorem dX5_reg_7 : decode cX5_reg 7 = .ok (.iand, 1) := by decide +kernel
theorem dX5_reg_8 : decode cX5_reg 8 = .ok (.iaload, 1) := by decide +kernel
theorem dX5_reg_9 : decode cX5_reg 9 = .ok (.ireturn, 1) := by decide +kernel
theorem dX5_pc_0 : decode cX5_pc 0 = .ok (.aload_n 0, 1) := by decide +kernel
theorem dX5_pc_1 : decode cX5_pc 1 = .ok (.getfield 30, 3) := by decide +kernel
theorem dX5_pc_4 : decode cX5_pc 4 = .ok (.ireturn, 1) := by decide +kernel
theorem dX5_told_0 : decode cX5_told 0 = .ok (.iload_n 1, 1) := by decide +kernel
theorem dX5_told_1 : decode cX5_told 1 = .ok (.tableswitch 69 0 4 #[35, 40, 45, 50, 63], 35) := by decide +kernel
theorem dX5_told_36 : decode cX5_told 36 = .ok (.aload_n 0, 1) := by decide +kernel
theorem dX5_told_37 : decode cX5_told 37 = .ok (.getfield 58, 3) := by decide +kernel
theorem dX5_told_40 : decode cX5_told 40 = .ok (.lreturn, 1) := by decide +kernel
theorem dX5_told_41 : decode cX5_told 41 = .ok (.aload_n 0, 1) := by decide +kernel
theorem dX5_told_42 : decode cX5_told 42 = .ok (.getfield 64, 3) := by decide +kernel
theorem dX5_told_45 : decode cX5_told 45 = .ok (.lreturn, 1) := by decide +kernel
theorem dX5_told_46 : decode cX5_told 46 = .ok (.aload_n 0, 1) := by decide +kernel
theorem dX5_told_47 : decode cX5_told 47 = .ok (.getfield 70, 3) := by decide +kernel
theorem dX5_told_50 : decode cX5_told 50 = .ok (.lreturn, 1) := by decide +kernel
theorem dX5_told_51 : decode cX5_told 51 = .ok (.aload_n 0, 1) := by decide +kernel
theorem dX5_told_52 : decode cX5_told 52 = .ok (.getfield 73, 3) := by decide +kernel
theorem dX5_told_55 : decode cX5_told 55 = .ok (.ifCond .eq 7, 3) := by decide +kernel
theorem dX5_told_58 : decode cX5_told 58 = .ok (.lconst 1, 1) := by decide +kernel
theorem dX5_told_59 : decode cX5_told 59 = .ok (.goto 4, 3) := by decide +kernel
theorem dX5_told_62 : decode cX5_told 62 = .ok (.lconst 0, 1) := by decide +kernel
theorem dX5_told_63 : decode cX5_told 63 = .ok (.lreturn, 1) := by decide +kernel
theorem dX5_told_64 : decode cX5_told 64 = .ok (.aload_n 0, 1) := by decide +kernel
theorem dX5_told_65 : decode cX5_told 65 = .ok (.getfield 76, 3) := by decide +kernel
theorem dX5_told_68 : decode cX5_told 68 = .ok (.i2l, 1) := by decide +kernel
theorem dX5_told_69 : decode cX5_told 69 = .ok (.lreturn, 1) := by decide +kernel
theorem dX5_told_70 : decode cX5_told 70 = .ok (.lconst 0, 1) := by decide +kernel
theorem dX5_told_71 : decode cX5_told 71 = .ok (.lreturn, 1) := by decide +kernel
theorem dX5_outSize_0 : decode cX5_outSize 0 = .ok (.aload_n 0, 1) := by decide +kernel
theorem dX5_outSize_1 : decode cX5_outSize 1 = .ok (.getfield 67, 3) := by decide +kernel
theorem dX5_outSize_4 : decode cX5_outSize 4 = .ok (.ireturn, 1) := by decide +kernel
theorem dX5_out_0 : decode cX5_out 0 = .ok (.iload_n 1, 1) := by decide +kernel
theorem dX5_out_1 : decode cX5_out 1 = .ok (.ifCond .lt 20, 3) := by decide +kernel
theorem dX5_out_4 : decode cX5_out 4 = .ok (.iload_n 1, 1) := by decide +kernel
theorem dX5_out_5 : decode cX5_out 5 = .ok (.aload_n 0, 1) := by decide +kernel
theorem dX5_out_6 : decode cX5_out 6 = .ok (.getfield 67, 3) := by decide +kernel
theorem dX5_out_9 : decode cX5_out 9 = .ok (.if_icmp .ge 12, 3) := by decide +kernel
theorem dX5_out_12 : decode cX5_out 12 = .ok (.aload_n 0, 1) := by decide +kernel
theorem dX5_out_13 : decode cX5_out 13 = .ok (.getfield 17, 3) := by decide +kernel
theorem dX5_out_16 : decode cX5_out 16 = .ok (.iload_n 1, 1) := by decide +kernel
theorem dX5_out_17 : decode cX5_out 17 = .ok (.iaload, 1) := by decide +kernel
theorem dX5_out_18 : decode cX5_out 18 = .ok (.goto 4, 3) := by decide +kernel
theorem dX5_out_21 : decode cX5_out 21 = .ok (.iconst (-1), 1) := by decide +kernel
theorem dX5_out_22 : decode cX5_out 22 = .ok (.ireturn, 1) := by decide +kernel
theorem dJ6_compare_7cf53_0 : decode cJ6_compare_7cf53 0 = .ok (.iload_n 0, 1) := by decide +kernel
theorem dJ6_compare_7cf53_1 : decode cJ6_compare_7cf53 1 = .ok (.iload_n 1, 1) := by decide +kernel
theorem dJ6_compare_7cf53_2 : decode cJ6_compare_7cf53 2 = .ok (.if_icmp .ge 7, 3) := by decide +kernel
theorem dJ6_compare_7cf53_5 : decode cJ6_compare_7cf53 5 = .ok (.iconst (-1), 1) := by decide +kernel
theorem dJ6_compare_7cf53_6 : decode cJ6_compare_7cf53 6 = .ok (.goto 13, 3) := by decide +kernel
theorem dJ6_compare_7cf53_9 : decode cJ6_compare_7cf53 9 = .ok (.iload_n 0, 1) := by decide +kernel
theorem dJ6_compare_7cf53_10 : decode cJ6_compare_7cf53 10 = .ok (.iload_n 1, 1) := by decide +kernel
theorem dJ6_compare_7cf53_11 : decode cJ6_compare_7cf53 11 = .ok (.if_icmp .ne 7, 3) := by decide +kernel
theorem dJ6_compare_7cf53_14 : decode cJ6_compare_7cf53 14 = .ok (.iconst 0, 1) := by decide +kernel
theorem dJ6_compare_7cf53_15 : decode cJ6_compare_7cf53 15 = .ok (.goto 4, 3) := by decide +kernel
theorem dJ6_compare_7cf53_18 : decode cJ6_compare_7cf53 18 = .ok (.iconst 1, 1) := by decide +kernel
theorem dJ6_compare_7cf53_19 : decode cJ6_compare_7cf53 19 = .ok (.ireturn, 1) := by decide +kernel
theorem dJ6_compareUnsigned_7cf53_0 : decode cJ6_compareUnsigned_7cf53 0 = .ok (.iload_n 0, 1) := by decide +kernel
theorem dJ6_compareUnsigned_7cf53_1 : decode cJ6_compareUnsigned_7cf53 1 = .ok (.ldc 127, 2) := by decide +kernel
theorem dJ6_compareUnsigned_7cf53_3 : decode cJ6_compareUnsigned_7cf53 3 = .ok (.iadd, 1) := by decide +kernel
theorem dJ6_compareUnsigned_7cf53_4 : decode cJ6_compareUnsigned_7cf53 4 = .ok (.iload_n 1, 1) := by decide +kernel
theorem dJ6_compareUnsigned_7cf53_5 : decode cJ6_compareUnsigned_7cf53 5 = .ok (.ldc 127, 2) := by decide +kernel
theorem dJ6_compareUnsigned_7cf53_7 : decode cJ6_compareUnsigned_7cf53 7 = .ok (.iadd, 1) := by decide +kernel
theorem dJ6_compareUnsigned_7cf53_8 : decode cJ6_compareUnsigned_7cf53 8 = .ok (.invokestatic 259, 3) := by decide +kernel
theorem dJ6_compareUnsigned_7cf53_11 : decode cJ6_compareUnsigned_7cf53 11 = .ok (.ireturn, 1) := by decide +kernel
theorem dJ13_compare_74951_0 : decode cJ13_compare_74951 0 = .ok (.lload_n 0, 1) := by decide +kernel
theorem dJ13_compare_74951_1 : decode cJ13_compare_74951 1 = .ok (.lload_n 2, 1) := by decide +kernel
theorem dJ13_compare_74951_2 : decode cJ13_compare_74951 2 = .ok (.lcmp, 1) := by decide +kernel
theorem dJ13_compare_74951_3 : decode cJ13_compare_74951 3 = .ok (.ifCond .ge 7, 3) := by decide +kernel
theorem dJ13_compare_74951_6 : decode cJ13_compare_74951 6 = .ok (.iconst (-1), 1) := by decide +kernel
theorem dJ13_compare_74951_7 : decode cJ13_compare_74951 7 = .ok (.goto 14, 3) := by decide +kernel
theorem dJ13_compare_74951_10 : decode cJ13_compare_74951 10 = .ok (.lload_n 0, 1) := by decide +kernel
theorem dJ13_compare_74951_11 : decode cJ13_compare_74951 11 = .ok (.lload_n 2, 1) := by decide +kernel
theorem dJ13_compare_74951_12 : decode cJ13_compare_74951 12 = .ok (.lcmp, 1) := by decide +kernel
theorem dJ13_compare_74951_13 : decode cJ13_compare_74951 13 = .ok (.ifCond .ne 7, 3) := by decide +kernel
theorem dJ13_compare_74951_16 : decode cJ13_compare_74951 16 = .ok (.iconst 0, 1) := by decide +kernel
theorem dJ13_compare_74951_17 : decode cJ13_compare_74951 17 = .ok (.goto 4, 3) := by decide +kernel
theorem dJ13_compare_74951_20 : decode cJ13_compare_74951 20 = .ok (.iconst 1, 1) := by decide +kernel
theorem dJ13_compare_74951_21 : decode cJ13_compare_74951 21 = .ok (.ireturn, 1) := by decide +kernel
theorem dJ13_compareUnsigned_74951_0 : decode cJ13_compareUnsigned_74951 0 = .ok (.lload_n 0, 1) := by decide +kernel
theorem dJ13_compareUnsigned_74951_1 : decode cJ13_compareUnsigned_74951 1 = .ok (.ldc2_w 168, 3) := by decide +kernel
theorem dJ13_compareUnsigned_74951_4 : decode cJ13_compareUnsigned_74951 4 = .ok (.ladd, 1) := by decide +kernel
theorem dJ13_compareUnsigned_74951_5 : decode cJ13_compareUnsigned_74951 5 = .ok (.lload_n 2, 1) := by decide +kernel
theorem dJ13_compareUnsigned_74951_6 : decode cJ13_compareUnsigned_74951 6 = .ok (.ldc2_w 168, 3) := by decide +kernel
theorem dJ13_compareUnsigned_74951_9 : decode cJ13_compareUnsigned_74951 9 = .ok (.ladd, 1) := by decide +kernel
theorem dJ13_compareUnsigned_74951_10 : decode cJ13_compareUnsigned_74951 10 = .ok (.invokestatic 302, 3) := by decide +kernel
theorem dJ13_compareUnsigned_74951_13 : decode cJ13_compareUnsigned_74951 13 = .ok (.ireturn, 1) := by decide +kernel
theorem dJ9_max_7cf53_0 : decode cJ9_max_7cf53 0 = .ok (.iload_n 0, 1) := by decide +kernel
theorem dJ9_max_7cf53_1 : decode cJ9_max_7cf53 1 = .ok (.iload_n 1, 1) := by decide +kernel
theorem dJ9_max_7cf53_2 : decode cJ9_max_7cf53 2 = .ok (.if_icmp .lt 7, 3) := by decide +kernel
theorem dJ9_max_7cf53_5 : decode cJ9_max_7cf53 5 = .ok (.iload_n 0, 1) := by decide +kernel
theorem dJ9_max_7cf53_6 : decode cJ9_max_7cf53 6 = .ok (.goto 4, 3) := by decide +kernel
theorem dJ9_max_7cf53_9 : decode cJ9_max_7cf53 9 = .ok (.iload_n 1, 1) := by decide +kernel
theorem dJ9_max_7cf53_10 : decode cJ9_max_7cf53 10 = .ok (.ireturn, 1) := by decide +kernel
theorem dJ9_min_7cf53_0 : decode cJ9_min_7cf53 0 = .ok (.iload_n 0, 1) := by decide +kernel
theorem dJ9_min_7cf53_1 : decode cJ9_min_7cf53 1 = .ok (.iload_n 1, 1) := by decide +kernel
theorem dJ9_min_7cf53_2 : decode cJ9_min_7cf53 2 = .ok (.if_icmp .gt 7, 3) := by decide +kernel
theorem dJ9_min_7cf53_5 : decode cJ9_min_7cf53 5 = .ok (.iload_n 0, 1) := by decide +kernel
theorem dJ9_min_7cf53_6 : decode cJ9_min_7cf53 6 = .ok (.goto 4, 3) := by decide +kernel
theorem dJ9_min_7cf53_9 : decode cJ9_min_7cf53 9 = .ok (.iload_n 1, 1) := by decide +kernel
theorem dJ9_min_7cf53_10 : decode cJ9_min_7cf53 10 = .ok (.ireturn, 1) := by decide +kernel
theorem dL_cell_0 : decode cL_cell 0 = .ok (.iload_n 1, 1) := by decide +kernel
theorem dL_cell_1 : decode cL_cell 1 = .ok (.aload_n 0, 1) := by decide +kernel
theorem dL_cell_2 : decode cL_cell 2 = .ok (.arraylength, 1) := by decide +kernel
theorem dL_cell_3 : decode cL_cell 3 = .ok (.if_icmp .ge 9, 3) := by decide +kernel
theorem dL_cell_6 : decode cL_cell 6 = .ok (.aload_n 0, 1) := by decide +kernel
theorem dL_cell_7 : decode cL_cell 7 = .ok (.iload_n 1, 1) := by decide +kernel
theorem dL_cell_8 : decode cL_cell 8 = .ok (.iaload, 1) := by decide +kernel
theorem dL_cell_9 : decode cL_cell 9 = .ok (.goto 4, 3) := by decide +kernel
theorem dL_cell_12 : decode cL_cell 12 = .ok (.iconst 0, 1) := by decide +kernel
theorem dL_cell_13 : decode cL_cell 13 = .ok (.ireturn, 1) := by decide +kernel
theorem dL_law_0 : decode cL_law 0 = .ok (.new 7, 3) := by decide +kernel
theorem dL_law_3 : decode cL_law 3 = .ok (.dup, 1) := by decide +kernel
theorem dL_law_4 : decode cL_law 4 = .ok (.aload_n 0, 1) := by decide +kernel
theorem dL_law_5 : decode cL_law 5 = .ok (.iconst 0, 1) := by decide +kernel
theorem dL_law_6 : decode cL_law 6 = .ok (.invokestatic 9, 3) := by decide +kernel
theorem dL_law_9 : decode cL_law 9 = .ok (.aload_n 0, 1) := by decide +kernel
theorem dL_law_10 : decode cL_law 10 = .ok (.iconst 1, 1) := by decide +kernel
theorem dL_law_11 : decode cL_law 11 = .ok (.invokestatic 9, 3) := by decide +kernel
theorem dL_law_14 : decode cL_law 14 = .ok (.invokespecial 15, 3) := by decide +kernel
theorem dL_law_17 : decode cL_law 17 = .ok (.astore_n 1, 1) := by decide +kernel
theorem dL_law_18 : decode cL_law 18 = .ok (.new 18, 3) := by decide +kernel
theorem dL_law_21 : decode cL_law 21 = .ok (.dup, 1) := by decide +kernel
theorem dL_law_22 : decode cL_law 22 = .ok (.aload_n 0, 1) := by decide +kernel
theorem dL_law_23 : decode cL_law 23 = .ok (.iconst 0, 1) := by decide +kernel
theorem dL_law_24 : decode cL_law 24 = .ok (.invokestatic 9, 3) := by decide +kernel
theorem dL_law_27 : decode cL_law 27 = .ok (.aload_n 0, 1) := by decide +kernel
theorem dL_law_28 : decode cL_law 28 = .ok (.iconst 1, 1) := by decide +kernel
theorem dL_law_29 : decode cL_law 29 = .ok (.invokestatic 9, 3) := by decide +kernel
theorem dL_law_32 : decode cL_law 32 = .ok (.invokespecial 20, 3) := by decide +kernel
theorem dL_law_35 : decode cL_law 35 = .ok (.astore_n 2, 1) := by decide +kernel
theorem dL_law_36 : decode cL_law 36 = .ok (.iconst 2, 1) := by decide +kernel
theorem dL_law_37 : decode cL_law 37 = .ok (.istore_n 3, 1) := by decide +kernel
theorem dL_law_38 : decode cL_law 38 = .ok (.iload_n 3, 1) := by decide +kernel
theorem dL_law_39 : decode cL_law 39 = .ok (.aload_n 0, 1) := by decide +kernel
theorem dL_law_40 : decode cL_law 40 = .ok (.arraylength, 1) := by decide +kernel
theorem dL_law_41 : decode cL_law 41 = .ok (.iconst 3, 1) := by decide +kernel
theorem dL_law_42 : decode cL_law 42 = .ok (.isub, 1) := by decide +kernel
theorem dL_law_43 : decode cL_law 43 = .ok (.if_icmp .gt 349, 3) := by decide +kernel
theorem dL_law_46 : decode cL_law 46 = .ok (.aload_n 0, 1) := by decide +kernel
theorem dL_law_47 : decode cL_law 47 = .ok (.iload_n 3, 1) := by decide +kernel
theorem dL_law_48 : decode cL_law 48 = .ok (.iaload, 1) := by decide +kernel
theorem dL_law_49 : decode cL_law 49 = .ok (.bipush 15, 2) := by decide +kernel
theorem dL_law_51 : decode cL_law 51 = .ok (.iand, 1) := by decide +kernel
theorem dL_law_52 : decode cL_law 52 = .ok (.tableswitch 334 0 12 #[68, 79, 112, 145, 168, 181, 204, 215, 238, 251, 274, 298, 311], 68) := by decide +kernel
theorem dL_law_120 : decode cL_law 120 = .ok (.aload_n 1, 1) := by decide +kernel
theorem dL_law_121 : decode cL_law 121 = .ok (.invokevirtual 21, 3) := by decide +kernel
theorem dL_law_124 : decode cL_law 124 = .ok (.aload_n 2, 1) := by decide +kernel
theorem dL_law_125 : decode cL_law 125 = .ok (.invokevirtual 24, 3) := by decide +kernel
theorem dL_law_128 : decode cL_law 128 = .ok (.goto 258, 3) := by decide +kernel
theorem dL_law_131 : decode cL_law 131 = .ok (.aload_n 1, 1) := by decide +kernel
theorem dL_law_132 : decode cL_law 132 = .ok (.aload_n 0, 1) := by decide +kernel
theorem dL_law_133 : decode cL_law 133 = .ok (.iload_n 3, 1) := by decide +kernel
theorem dL_law_134 : decode cL_law 134 = .ok (.iconst 1, 1) := by decide +kernel
theorem dL_law_135 : decode cL_law 135 = .ok (.iadd, 1) := by decide +kernel
theorem dL_law_136 : decode cL_law 136 = .ok (.iaload, 1) := by decide +kernel
theorem dL_law_137 : decode cL_law 137 = .ok (.aload_n 0, 1) := by decide +kernel
theorem dL_law_138 : decode cL_law 138 = .ok (.iload_n 3, 1) := by decide +kernel
theorem dL_law_139 : decode cL_law 139 = .ok (.iconst 2, 1) := by decide +kernel
theorem dL_law_140 : decode cL_law 140 = .ok (.iadd, 1) := by decide +kernel
theorem dL_law_141 : decode cL_law 141 = .ok (.iaload, 1) := by decide +kernel
theorem dL_law_142 : decode cL_law 142 = .ok (.invokevirtual 25, 3) := by decide +kernel
theorem dL_law_145 : decode cL_law 145 = .ok (.aload_n 2, 1) := by decide +kernel
theorem dL_law_146 : decode cL_law 146 = .ok (.aload_n 0, 1) := by decide +kernel
theorem dL_law_147 : decode cL_law 147 = .ok (.iload_n 3, 1) := by decide +kernel
theorem dL_law_148 : decode cL_law 148 = .ok (.iconst 1, 1) := by decide +kernel
theorem dL_law_149 : decode cL_law 149 = .ok (.iadd, 1) := by decide +kernel
theorem dL_law_150 : decode cL_law 150 = .ok (.iaload, 1) := by decide +kernel
theorem dL_law_151 : decode cL_law 151 = .ok (.aload_n 0, 1) := by decide +kernel
theorem dL_law_152 : decode cL_law 152 = .ok (.iload_n 3, 1) := by decide +kernel
theorem dL_law_153 : decode cL_law 153 = .ok (.iconst 2, 1) := by decide +kernel
theorem dL_law_154 : decode cL_law 154 = .ok (.iadd, 1) := by decide +kernel
theorem dL_law_155 : decode cL_law 155 = .ok (.iaload, 1) := by decide +kernel
theorem dL_law_156 : decode cL_law 156 = .ok (.invokevirtual 29, 3) := by decide +kernel
theorem dL_law_159 : decode cL_law 159 = .ok (.if_icmp .eq 227, 3) := by decide +kernel
theorem dL_law_162 : decode cL_law 162 = .ok (.iconst 0, 1) := by decide +kernel
theorem dL_law_163 : decode cL_law 163 = .ok (.ireturn, 1) := by decide +kernel
theorem dL_law_164 : decode cL_law 164 = .ok (.aload_n 1, 1) := by decide +kernel
theorem dL_law_165 : decode cL_law 165 = .ok (.aload_n 0, 1) := by decide +kernel
theorem dL_law_166 : decode cL_law 166 = .ok (.iload_n 3, 1) := by decide +kernel
theorem dL_law_167 : decode cL_law 167 = .ok (.iconst 1, 1) := by decide +kernel
theorem dL_law_168 : decode cL_law 168 = .ok (.iadd, 1) := by decide +kernel
theorem dL_law_169 : decode cL_law 169 = .ok (.iaload, 1) := by decide +kernel
theorem dL_law_170 : decode cL_law 170 = .ok (.aload_n 0, 1) := by decide +kernel
theorem dL_law_171 : decode cL_law 171 = .ok (.iload_n 3, 1) := by decide +kernel
theorem dL_law_172 : decode cL_law 172 = .ok (.iconst 2, 1) := by decide +kernel
theorem dL_law_173 : decode cL_law 173 = .ok (.iadd, 1) := by decide +kernel
theorem dL_law_174 : decode cL_law 174 = .ok (.iaload, 1) := by decide +kernel
theorem dL_law_175 : decode cL_law 175 = .ok (.invokevirtual 30, 3) := by decide +kernel
theorem dL_law_178 : decode cL_law 178 = .ok (.aload_n 2, 1) := by decide +kernel
theorem dL_law_179 : decode cL_law 179 = .ok (.aload_n 0, 1) := by decide +kernel
theorem dL_law_180 : decode cL_law 180 = .ok (.iload_n 3, 1) := by decide +kernel
theorem dL_law_181 : decode cL_law 181 = .ok (.iconst 1, 1) := by decide +kernel
theorem dL_law_182 : decode cL_law 182 = .ok (.iadd, 1) := by decide +kernel
theorem dL_law_183 : decode cL_law 183 = .ok (.iaload, 1) := by decide +kernel
theorem dL_law_184 : decode cL_law 184 = .ok (.aload_n 0, 1) := by decide +kernel
theorem dL_law_185 : decode cL_law 185 = .ok (.iload_n 3, 1) := by decide +kernel
theorem dL_law_186 : decode cL_law 186 = .ok (.iconst 2, 1) := by decide +kernel
theorem dL_law_187 : decode cL_law 187 = .ok (.iadd, 1) := by decide +kernel
theorem dL_law_188 : decode cL_law 188 = .ok (.iaload, 1) := by decide +kernel
theorem dL_law_189 : decode cL_law 189 = .ok (.invokevirtual 33, 3) := by decide +kernel
theorem dL_law_192 : decode cL_law 192 = .ok (.if_icmp .eq 194, 3) := by decide +kernel
theorem dL_law_195 : decode cL_law 195 = .ok (.iconst 0, 1) := by decide +kernel
theorem dL_law_196 : decode cL_law 196 = .ok (.ireturn, 1) := by decide +kernel
theorem dL_law_197 : decode cL_law 197 = .ok (.aload_n 1, 1) := by decide +kernel
theorem dL_law_198 : decode cL_law 198 = .ok (.aload_n 0, 1) := by decide +kernel
theorem dL_law_199 : decode cL_law 199 = .ok (.iload_n 3, 1) := by decide +kernel
theorem dL_law_200 : decode cL_law 200 = .ok (.iconst 1, 1) := by decide +kernel
theorem dL_law_201 : decode cL_law 201 = .ok (.iadd, 1) := by decide +kernel
theorem dL_law_202 : decode cL_law 202 = .ok (.iaload, 1) := by decide +kernel
theorem dL_law_203 : decode cL_law 203 = .ok (.invokevirtual 34, 3) := by decide +kernel
theorem dL_law_206 : decode cL_law 206 = .ok (.aload_n 2, 1) := by decide +kernel
theorem dL_law_207 : decode cL_law 207 = .ok (.aload_n 0, 1) := by decide +kernel
theorem dL_law_208 : decode cL_law 208 = .ok (.iload_n 3, 1) := by decide +kernel
theorem dL_law_209 : decode cL_law 209 = .ok (.iconst 1, 1) := by decide +kernel
theorem dL_law_210 : decode cL_law 210 = .ok (.iadd, 1) := by decide +kernel
theorem dL_law_211 : decode cL_law 211 = .ok (.iaload, 1) := by decide +kernel
theorem dL_law_212 : decode cL_law 212 = .ok (.invokevirtual 38, 3) := by decide +kernel
theorem dL_law_215 : decode cL_law 215 = .ok (.if_icmp .eq 171, 3) := by decide +kernel
theorem dL_law_218 : decode cL_law 218 = .ok (.iconst 0, 1) := by decide +kernel
theorem dL_law_219 : decode cL_law 219 = .ok (.ireturn, 1) := by decide +kernel
theorem dL_law_220 : decode cL_law 220 = .ok (.aload_n 1, 1) := by decide +kernel
theorem dL_law_221 : decode cL_law 221 = .ok (.invokevirtual 39, 3) := by decide +kernel
theorem dL_law_224 : decode cL_law 224 = .ok (.aload_n 2, 1) := by decide +kernel
theorem dL_law_225 : decode cL_law 225 = .ok (.invokevirtual 43, 3) := by decide +kernel
theorem dL_law_228 : decode cL_law 228 = .ok (.if_icmp .eq 158, 3) := by decide +kernel
theorem dL_law_231 : decode cL_law 231 = .ok (.iconst 0, 1) := by decide +kernel
theorem dL_law_232 : decode cL_law 232 = .ok (.ireturn, 1) := by decide +kernel
theorem dL_law_233 : decode cL_law 233 = .ok (.aload_n 1, 1) := by decide +kernel
theorem dL_law_234 : decode cL_law 234 = .ok (.aload_n 0, 1) := by decide +kernel
theorem dL_law_235 : decode cL_law 235 = .ok (.iload_n 3, 1) := by decide +kernel
theorem dL_law_236 : decode cL_law 236 = .ok (.iconst 1, 1) := by decide +kernel
theorem dL_law_237 : decode cL_law 237 = .ok (.iadd, 1) := by decide +kernel
theorem dL_law_238 : decode cL_law 238 = .ok (.iaload, 1) := by decide +kernel
theorem dL_law_239 : decode cL_law 239 = .ok (.invokevirtual 44, 3) := by decide +kernel
theorem dL_law_242 : decode cL_law 242 = .ok (.aload_n 2, 1) := by decide +kernel
theorem dL_law_243 : decode cL_law 243 = .ok (.aload_n 0, 1) := by decide +kernel
theorem dL_law_244 : decode cL_law 244 = .ok (.iload_n 3, 1) := by decide +kernel
theorem dL_law_245 : decode cL_law 245 = .ok (.iconst 1, 1) := by decide +kernel
theorem dL_law_246 : decode cL_law 246 = .ok (.iadd, 1) := by decide +kernel
theorem dL_law_247 : decode cL_law 247 = .ok (.iaload, 1) := by decide +kernel
theorem dL_law_248 : decode cL_law 248 = .ok (.invokevirtual 47, 3) := by decide +kernel
theorem dL_law_251 : decode cL_law 251 = .ok (.if_icmp .eq 135, 3) := by decide +kernel
theorem dL_law_254 : decode cL_law 254 = .ok (.iconst 0, 1) := by decide +kernel
theorem dL_law_255 : decode cL_law 255 = .ok (.ireturn, 1) := by decide +kernel
theorem dL_law_256 : decode cL_law 256 = .ok (.aload_n 1, 1) := by decide +kernel
theorem dL_law_257 : decode cL_law 257 = .ok (.invokevirtual 48, 3) := by decide +kernel
theorem dL_law_260 : decode cL_law 260 = .ok (.aload_n 2, 1) := by decide +kernel
theorem dL_law_261 : decode cL_law 261 = .ok (.invokevirtual 51, 3) := by decide +kernel
theorem dL_law_264 : decode cL_law 264 = .ok (.goto 122, 3) := by decide +kernel
theorem dL_law_267 : decode cL_law 267 = .ok (.aload_n 1, 1) := by decide +kernel
theorem dL_law_268 : decode cL_law 268 = .ok (.aload_n 0, 1) := by decide +kernel
theorem dL_law_269 : decode cL_law 269 = .ok (.iload_n 3, 1) := by decide +kernel
theorem dL_law_270 : decode cL_law 270 = .ok (.iconst 1, 1) := by decide +kernel
theorem dL_law_271 : decode cL_law 271 = .ok (.iadd, 1) := by decide +kernel
theorem dL_law_272 : decode cL_law 272 = .ok (.iaload, 1) := by decide +kernel
theorem dL_law_273 : decode cL_law 273 = .ok (.invokevirtual 52, 3) := by decide +kernel
theorem dL_law_276 : decode cL_law 276 = .ok (.aload_n 2, 1) := by decide +kernel
theorem dL_law_277 : decode cL_law 277 = .ok (.aload_n 0, 1) := by decide +kernel
theorem dL_law_278 : decode cL_law 278 = .ok (.iload_n 3, 1) := by decide +kernel
theorem dL_law_279 : decode cL_law 279 = .ok (.iconst 1, 1) := by decide +kernel
theorem dL_law_280 : decode cL_law 280 = .ok (.iadd, 1) := by decide +kernel
theorem dL_law_281 : decode cL_law 281 = .ok (.iaload, 1) := by decide +kernel
theorem dL_law_282 : decode cL_law 282 = .ok (.invokevirtual 55, 3) := by decide +kernel
theorem dL_law_285 : decode cL_law 285 = .ok (.if_icmp .eq 101, 3) := by decide +kernel
theorem dL_law_288 : decode cL_law 288 = .ok (.iconst 0, 1) := by decide +kernel
theorem dL_law_289 : decode cL_law 289 = .ok (.ireturn, 1) := by decide +kernel
theorem dL_law_290 : decode cL_law 290 = .ok (.aload_n 1, 1) := by decide +kernel
theorem dL_law_291 : decode cL_law 291 = .ok (.invokevirtual 56, 3) := by decide +kernel
theorem dL_law_294 : decode cL_law 294 = .ok (.aload_n 2, 1) := by decide +kernel
theorem dL_law_295 : decode cL_law 295 = .ok (.invokevirtual 59, 3) := by decide +kernel
theorem dL_law_298 : decode cL_law 298 = .ok (.if_icmp .eq 88, 3) := by decide +kernel
theorem dL_law_301 : decode cL_law 301 = .ok (.iconst 0, 1) := by decide +kernel
theorem dL_law_302 : decode cL_law 302 = .ok (.ireturn, 1) := by decide +kernel
theorem dL_law_303 : decode cL_law 303 = .ok (.aload_n 1, 1) := by decide +kernel
theorem dL_law_304 : decode cL_law 304 = .ok (.aload_n 0, 1) := by decide +kernel
theorem dL_law_305 : decode cL_law 305 = .ok (.iload_n 3, 1) := by decide +kernel
theorem dL_law_306 : decode cL_law 306 = .ok (.iconst 1, 1) := by decide +kernel
theorem dL_law_307 : decode cL_law 307 = .ok (.iadd, 1) := by decide +kernel
theorem dL_law_308 : decode cL_law 308 = .ok (.iaload, 1) := by decide +kernel
theorem dL_law_309 : decode cL_law 309 = .ok (.invokevirtual 60, 3) := by decide +kernel
theorem dL_law_312 : decode cL_law 312 = .ok (.aload_n 2, 1) := by decide +kernel
theorem dL_law_313 : decode cL_law 313 = .ok (.aload_n 0, 1) := by decide +kernel
theorem dL_law_314 : decode cL_law 314 = .ok (.iload_n 3, 1) := by decide +kernel
theorem dL_law_315 : decode cL_law 315 = .ok (.iconst 1, 1) := by decide +kernel
theorem dL_law_316 : decode cL_law 316 = .ok (.iadd, 1) := by decide +kernel
theorem dL_law_317 : decode cL_law 317 = .ok (.iaload, 1) := by decide +kernel
theorem dL_law_318 : decode cL_law 318 = .ok (.invokevirtual 63, 3) := by decide +kernel
theorem dL_law_321 : decode cL_law 321 = .ok (.if_icmp .eq 65, 3) := by decide +kernel
theorem dL_law_324 : decode cL_law 324 = .ok (.iconst 0, 1) := by decide +kernel
theorem dL_law_325 : decode cL_law 325 = .ok (.ireturn, 1) := by decide +kernel
theorem dL_law_326 : decode cL_law 326 = .ok (.aload_n 1, 1) := by decide +kernel
theorem dL_law_327 : decode cL_law 327 = .ok (.aload_n 0, 1) := by decide +kernel
theorem dL_law_328 : decode cL_law 328 = .ok (.iload_n 3, 1) := by decide +kernel
theorem dL_law_329 : decode cL_law 329 = .ok (.iconst 1, 1) := by decide +kernel
theorem dL_law_330 : decode cL_law 330 = .ok (.iadd, 1) := by decide +kernel
theorem dL_law_331 : decode cL_law 331 = .ok (.iaload, 1) := by decide +kernel
theorem dL_law_332 : decode cL_law 332 = .ok (.invokevirtual 64, 3) := by decide +kernel
theorem dL_law_335 : decode cL_law 335 = .ok (.aload_n 2, 1) := by decide +kernel
theorem dL_law_336 : decode cL_law 336 = .ok (.aload_n 0, 1) := by decide +kernel
theorem dL_law_337 : decode cL_law 337 = .ok (.iload_n 3, 1) := by decide +kernel
theorem dL_law_338 : decode cL_law 338 = .ok (.iconst 1, 1) := by decide +kernel
theorem dL_law_339 : decode cL_law 339 = .ok (.iadd, 1) := by decide +kernel
theorem dL_law_340 : decode cL_law 340 = .ok (.iaload, 1) := by decide +kernel
theorem dL_law_341 : decode cL_law 341 = .ok (.invokevirtual 68, 3) := by decide +kernel
theorem dL_law_344 : decode cL_law 344 = .ok (.lcmp, 1) := by decide +kernel
theorem dL_law_345 : decode cL_law 345 = .ok (.ifCond .eq 41, 3) := by decide +kernel
theorem dL_law_348 : decode cL_law 348 = .ok (.iconst 0, 1) := by decide +kernel
theorem dL_law_349 : decode cL_law 349 = .ok (.ireturn, 1) := by decide +kernel
theorem dL_law_350 : decode cL_law 350 = .ok (.aload_n 1, 1) := by decide +kernel
theorem dL_law_351 : decode cL_law 351 = .ok (.invokevirtual 69, 3) := by decide +kernel
theorem dL_law_354 : decode cL_law 354 = .ok (.aload_n 2, 1) := by decide +kernel
theorem dL_law_355 : decode cL_law 355 = .ok (.invokevirtual 72, 3) := by decide +kernel
theorem dL_law_358 : decode cL_law 358 = .ok (.if_icmp .eq 28, 3) := by decide +kernel
theorem dL_law_361 : decode cL_law 361 = .ok (.iconst 0, 1) := by decide +kernel
theorem dL_law_362 : decode cL_law 362 = .ok (.ireturn, 1) := by decide +kernel
theorem dL_law_363 : decode cL_law 363 = .ok (.aload_n 1, 1) := by decide +kernel
theorem dL_law_364 : decode cL_law 364 = .ok (.aload_n 0, 1) := by decide +kernel
theorem dL_law_365 : decode cL_law 365 = .ok (.iload_n 3, 1) := by decide +kernel
theorem dL_law_366 : decode cL_law 366 = .ok (.iconst 1, 1) := by decide +kernel
theorem dL_law_367 : decode cL_law 367 = .ok (.iadd, 1) := by decide +kernel
theorem dL_law_368 : decode cL_law 368 = .ok (.iaload, 1) := by decide +kernel
theorem dL_law_369 : decode cL_law 369 = .ok (.invokevirtual 73, 3) := by decide +kernel
theorem dL_law_372 : decode cL_law 372 = .ok (.aload_n 2, 1) := by decide +kernel
theorem dL_law_373 : decode cL_law 373 = .ok (.aload_n 0, 1) := by decide +kernel
theorem dL_law_374 : decode cL_law 374 = .ok (.iload_n 3, 1) := by decide +kernel
theorem dL_law_375 : decode cL_law 375 = .ok (.iconst 1, 1) := by decide +kernel
theorem dL_law_376 : decode cL_law 376 = .ok (.iadd, 1) := by decide +kernel
theorem dL_law_377 : decode cL_law 377 = .ok (.iaload, 1) := by decide +kernel
theorem dL_law_378 : decode cL_law 378 = .ok (.invokevirtual 76, 3) := by decide +kernel
theorem dL_law_381 : decode cL_law 381 = .ok (.if_icmp .eq 5, 3) := by decide +kernel
theorem dL_law_384 : decode cL_law 384 = .ok (.iconst 0, 1) := by decide +kernel
theorem dL_law_385 : decode cL_law 385 = .ok (.ireturn, 1) := by decide +kernel
theorem dL_law_386 : decode cL_law 386 = .ok (.iinc 3 3, 3) := by decide +kernel
theorem dL_law_389 : decode cL_law 389 = .ok (.goto (-351), 3) := by decide +kernel
theorem dL_law_392 : decode cL_law 392 = .ok (.iconst 1, 1) := by decide +kernel
theorem dL_law_393 : decode cL_law 393 = .ok (.ireturn, 1) := by decide +kernel
