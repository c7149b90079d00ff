/-! decode rows -/
theorem dX0_init_0 : decode cX0_init 0 = .ok (.aload_n 0, 1) := by decide +kernel
theorem dX0_init_1 : decode cX0_init 1 = .ok (.invokespecial 1, 3) := by decide +kernel
theorem dX0_init_4 : decode cX0_init 4 = .ok (.return_, 1) := by decide +kernel
theorem dX0_restart_0 : decode cX0_restart 0 = .ok (.aload_n 0, 1) := by decide +kernel
theorem dX0_restart_1 : decode cX0_restart 1 = .ok (.iconst 0, 1) := by decide +kernel
theorem dX0_restart_2 : decode cX0_restart 2 = .ok (.putfield 7, 3) := by decide +kernel
theorem dX0_restart_5 : decode cX0_restart 5 = .ok (.aload_n 0, 1) := by decide +kernel
theorem dX0_restart_6 : decode cX0_restart 6 = .ok (.iconst 0, 1) := by decide +kernel
theorem dX0_restart_7 : decode cX0_restart 7 = .ok (.putfield 13, 3) := by decide +kernel
theorem dX0_restart_10 : decode cX0_restart 10 = .ok (.aload_n 0, 1) := by decide +kernel
theorem dX0_restart_11 : decode cX0_restart 11 = .ok (.iconst 0, 1) := by decide +kernel
theorem dX0_restart_12 : decode cX0_restart 12 = .ok (.putfield 16, 3) := by decide +kernel
theorem dX0_restart_15 : decode cX0_restart 15 = .ok (.aload_n 0, 1) := by decide +kernel
theorem dX0_restart_16 : decode cX0_restart 16 = .ok (.iconst 0, 1) := by decide +kernel
theorem dX0_restart_17 : decode cX0_restart 17 = .ok (.putfield 20, 3) := by decide +kernel
theorem dX0_restart_20 : decode cX0_restart 20 = .ok (.aload_n 0, 1) := by decide +kernel
theorem dX0_restart_21 : decode cX0_restart 21 = .ok (.iconst 0, 1) := by decide +kernel
theorem dX0_restart_22 : decode cX0_restart 22 = .ok (.putfield 23, 3) := by decide +kernel
theorem dX0_restart_25 : decode cX0_restart 25 = .ok (.aload_n 0, 1) := by decide +kernel
theorem dX0_restart_26 : decode cX0_restart 26 = .ok (.iconst 0, 1) := by decide +kernel
theorem dX0_restart_27 : decode cX0_restart 27 = .ok (.putfield 26, 3) := by decide +kernel
theorem dX0_restart_30 : decode cX0_restart 30 = .ok (.aload_n 0, 1) := by decide +kernel
theorem dX0_restart_31 : decode cX0_restart 31 = .ok (.iconst 0, 1) := by decide +kernel
theorem dX0_restart_32 : decode cX0_restart 32 = .ok (.putfield 29, 3) := by decide +kernel
theorem dX0_restart_35 : decode cX0_restart 35 = .ok (.aload_n 0, 1) := by decide +kernel
theorem dX0_restart_36 : decode cX0_restart 36 = .ok (.iconst 0, 1) := by decide +kernel
theorem dX0_restart_37 : decode cX0_restart 37 = .ok (.putfield 32, 3) := by decide +kernel
theorem dX0_restart_40 : decode cX0_restart 40 = .ok (.return_, 1) := by decide +kernel
theorem dX0_lists_0 : decode cX0_lists 0 = .ok (.iload_n 0, 1) := by decide +kernel
theorem dX0_lists_1 : decode cX0_lists 1 = .ok (.lookupswitch 93 #[(768, 91), (769, 91), (772, 91), (773, 91), (832, 91), (833, 91), (834, 91), (835, 91), (836, 91), (3860, 91)], 91) := by decide +kernel
theorem dX0_lists_92 : decode cX0_lists 92 = .ok (.iconst 1, 1) := by decide +kernel
theorem dX0_lists_93 : decode cX0_lists 93 = .ok (.ireturn, 1) := by decide +kernel
theorem dX0_lists_94 : decode cX0_lists 94 = .ok (.iconst 0, 1) := by decide +kernel
theorem dX0_lists_95 : decode cX0_lists 95 = .ok (.ireturn, 1) := by decide +kernel
theorem dX0_get_0 : decode cX0_get 0 = .ok (.iload_n 1, 1) := by decide +kernel
theorem dX0_get_1 : decode cX0_get 1 = .ok (.lookupswitch 161 #[(768, 83), (769, 116), (772, 119), (773, 124), (832, 129), (833, 134), (834, 139), (835, 144), (836, 149)], 83) := by decide +kernel
theorem dX0_get_84 : decode cX0_get 84 = .ok (.sipush 6144, 3) := by decide +kernel
theorem dX0_get_87 : decode cX0_get 87 = .ok (.aload_n 0, 1) := by decide +kernel
theorem dX0_get_88 : decode cX0_get 88 = .ok (.getfield 7, 3) := by decide +kernel
theorem dX0_get_91 : decode cX0_get 91 = .ok (.ifCond .eq 8, 3) := by decide +kernel
theorem dX0_get_94 : decode cX0_get 94 = .ok (.bipush 8, 2) := by decide +kernel
theorem dX0_get_96 : decode cX0_get 96 = .ok (.goto 4, 3) := by decide +kernel
theorem dX0_get_99 : decode cX0_get 99 = .ok (.iconst 0, 1) := by decide +kernel
theorem dX0_get_100 : decode cX0_get 100 = .ok (.ior, 1) := by decide +kernel
theorem dX0_get_101 : decode cX0_get 101 = .ok (.aload_n 0, 1) := by decide +kernel
theorem dX0_get_102 : decode cX0_get 102 = .ok (.getfield 13, 3) := by decide +kernel
theorem dX0_get_105 : decode cX0_get 105 = .ok (.ifCond .eq 9, 3) := by decide +kernel
theorem dX0_get_108 : decode cX0_get 108 = .ok (.sipush 128, 3) := by decide +kernel
theorem dX0_get_111 : decode cX0_get 111 = .ok (.goto 4, 3) := by decide +kernel
theorem dX0_get_114 : decode cX0_get 114 = .ok (.iconst 0, 1) := by decide +kernel
theorem dX0_get_115 : decode cX0_get 115 = .ok (.ior, 1) := by decide +kernel
theorem dX0_get_116 : decode cX0_get 116 = .ok (.ireturn, 1) := by decide +kernel
theorem dX0_get_117 : decode cX0_get 117 = .ok (.ldc 35, 2) := by decide +kernel
theorem dX0_get_119 : decode cX0_get 119 = .ok (.ireturn, 1) := by decide +kernel
theorem dX0_get_120 : decode cX0_get 120 = .ok (.aload_n 0, 1) := by decide +kernel
theorem dX0_get_121 : decode cX0_get 121 = .ok (.getfield 16, 3) := by decide +kernel
theorem dX0_get_124 : decode cX0_get 124 = .ok (.ireturn, 1) := by decide +kernel
theorem dX0_get_125 : decode cX0_get 125 = .ok (.aload_n 0, 1) := by decide +kernel
theorem dX0_get_126 : decode cX0_get 126 = .ok (.getfield 20, 3) := by decide +kernel
theorem dX0_get_129 : decode cX0_get 129 = .ok (.ireturn, 1) := by decide +kernel
theorem dX0_get_130 : decode cX0_get 130 = .ok (.aload_n 0, 1) := by decide +kernel
theorem dX0_get_131 : decode cX0_get 131 = .ok (.getfield 23, 3) := by decide +kernel
theorem dX0_get_134 : decode cX0_get 134 = .ok (.ireturn, 1) := by decide +kernel
theorem dX0_get_135 : decode cX0_get 135 = .ok (.aload_n 0, 1) := by decide +kernel
theorem dX0_get_136 : decode cX0_get 136 = .ok (.getfield 26, 3) := by decide +kernel
theorem dX0_get_139 : decode cX0_get 139 = .ok (.ireturn, 1) := by decide +kernel
theorem dX0_get_140 : decode cX0_get 140 = .ok (.aload_n 0, 1) := by decide +kernel
theorem dX0_get_141 : decode cX0_get 141 = .ok (.getfield 29, 3) := by decide +kernel
theorem dX0_get_144 : decode cX0_get 144 = .ok (.ireturn, 1) := by decide +kernel
theorem dX0_get_145 : decode cX0_get 145 = .ok (.aload_n 0, 1) := by decide +kernel
theorem dX0_get_146 : decode cX0_get 146 = .ok (.getfield 32, 3) := by decide +kernel
theorem dX0_get_149 : decode cX0_get 149 = .ok (.ireturn, 1) := by decide +kernel
theorem dX0_get_150 : decode cX0_get 150 = .ok (.iload_n 2, 1) := by decide +kernel
theorem dX0_get_151 : decode cX0_get 151 = .ok (.ifCond .eq 9, 3) := by decide +kernel
theorem dX0_get_154 : decode cX0_get 154 = .ok (.sipush 128, 3) := by decide +kernel
theorem dX0_get_157 : decode cX0_get 157 = .ok (.goto 4, 3) := by decide +kernel
theorem dX0_get_160 : decode cX0_get 160 = .ok (.iconst 0, 1) := by decide +kernel
theorem dX0_get_161 : decode cX0_get 161 = .ok (.ireturn, 1) := by decide +kernel
theorem dX0_get_162 : decode cX0_get 162 = .ok (.iconst 0, 1) := by decide +kernel
theorem dX0_get_163 : decode cX0_get 163 = .ok (.ireturn, 1) := by decide +kernel
theorem dX0_set_0 : decode cX0_set 0 = .ok (.iload_n 1, 1) := by decide +kernel
theorem dX0_set_1 : decode cX0_set 1 = .ok (.lookupswitch 164 #[(768, 67), (772, 103), (773, 115), (832, 126), (833, 134), (834, 145), (835, 156)], 67) := by decide +kernel
theorem dX0_set_68 : decode cX0_set 68 = .ok (.aload_n 0, 1) := by decide +kernel
theorem dX0_set_69 : decode cX0_set 69 = .ok (.iload_n 2, 1) := by decide +kernel
theorem dX0_set_70 : decode cX0_set 70 = .ok (.bipush 8, 2) := by decide +kernel
theorem dX0_set_72 : decode cX0_set 72 = .ok (.iand, 1) := by decide +kernel
theorem dX0_set_73 : decode cX0_set 73 = .ok (.ifCond .eq 7, 3) := by decide +kernel
theorem dX0_set_76 : decode cX0_set 76 = .ok (.iconst 1, 1) := by decide +kernel
theorem dX0_set_77 : decode cX0_set 77 = .ok (.goto 4, 3) := by decide +kernel
theorem dX0_set_80 : decode cX0_set 80 = .ok (.iconst 0, 1) := by decide +kernel
theorem dX0_set_81 : decode cX0_set 81 = .ok (.putfield 7, 3) := by decide +kernel
theorem dX0_set_84 : decode cX0_set 84 = .ok (.aload_n 0, 1) := by decide +kernel
theorem dX0_set_85 : decode cX0_set 85 = .ok (.iload_n 2, 1) := by decide +kernel
theorem dX0_set_86 : decode cX0_set 86 = .ok (.sipush 128, 3) := by decide +kernel
theorem dX0_set_89 : decode cX0_set 89 = .ok (.iand, 1) := by decide +kernel
theorem dX0_set_90 : decode cX0_set 90 = .ok (.ifCond .eq 7, 3) := by decide +kernel
theorem dX0_set_93 : decode cX0_set 93 = .ok (.iconst 1, 1) := by decide +kernel
theorem dX0_set_94 : decode cX0_set 94 = .ok (.goto 4, 3) := by decide +kernel
theorem dX0_set_97 : decode cX0_set 97 = .ok (.iconst 0, 1) := by decide +kernel
theorem dX0_set_98 : decode cX0_set 98 = .ok (.putfield 13, 3) := by decide +kernel
theorem dX0_set_101 : decode cX0_set 101 = .ok (.goto 64, 3) := by decide +kernel
theorem dX0_set_104 : decode cX0_set 104 = .ok (.aload_n 0, 1) := by decide +kernel
theorem dX0_set_105 : decode cX0_set 105 = .ok (.iload_n 2, 1) := by decide +kernel
theorem dX0_set_106 : decode cX0_set 106 = .ok (.sipush 2184, 3) := by decide +kernel
theorem dX0_set_109 : decode cX0_set 109 = .ok (.iand, 1) := by decide +kernel
theorem dX0_set_110 : decode cX0_set 110 = .ok (.putfield 16, 3) := by decide +kernel
theorem dX0_set_113 : decode cX0_set 113 = .ok (.goto 52, 3) := by decide +kernel
theorem dX0_set_116 : decode cX0_set 116 = .ok (.aload_n 0, 1) := by decide +kernel
theorem dX0_set_117 : decode cX0_set 117 = .ok (.iload_n 2, 1) := by decide +kernel
theorem dX0_set_118 : decode cX0_set 118 = .ok (.bipush (-3), 2) := by decide +kernel
theorem dX0_set_120 : decode cX0_set 120 = .ok (.iand, 1) := by decide +kernel
theorem dX0_set_121 : decode cX0_set 121 = .ok (.putfield 20, 3) := by decide +kernel
theorem dX0_set_124 : decode cX0_set 124 = .ok (.goto 41, 3) := by decide +kernel
theorem dX0_set_127 : decode cX0_set 127 = .ok (.aload_n 0, 1) := by decide +kernel
theorem dX0_set_128 : decode cX0_set 128 = .ok (.iload_n 2, 1) := by decide +kernel
theorem dX0_set_129 : decode cX0_set 129 = .ok (.putfield 23, 3) := by decide +kernel
theorem dX0_set_132 : decode cX0_set 132 = .ok (.goto 33, 3) := by decide +kernel
theorem dX0_set_135 : decode cX0_set 135 = .ok (.aload_n 0, 1) := by decide +kernel
theorem dX0_set_136 : decode cX0_set 136 = .ok (.iload_n 2, 1) := by decide +kernel
theorem dX0_set_137 : decode cX0_set 137 = .ok (.bipush (-4), 2) := by decide +kernel
theorem dX0_set_139 : decode cX0_set 139 = .ok (.iand, 1) := by decide +kernel
theorem dX0_set_140 : decode cX0_set 140 = .ok (.putfield 26, 3) := by decide +kernel
theorem dX0_set_143 : decode cX0_set 143 = .ok (.goto 22, 3) := by decide +kernel
theorem dX0_set_146 : decode cX0_set 146 = .ok (.aload_n 0, 1) := by decide +kernel
theorem dX0_set_147 : decode cX0_set 147 = .ok (.iload_n 2, 1) := by decide +kernel
theorem dX0_set_148 : decode cX0_set 148 = .ok (.ldc 36, 2) := by decide +kernel
theorem dX0_set_150 : decode cX0_set 150 = .ok (.iand, 1) := by decide +kernel
theorem dX0_set_151 : decode cX0_set 151 = .ok (.putfield 29, 3) := by decide +kernel
theorem dX0_set_154 : decode cX0_set 154 = .ok (.goto 11, 3) := by decide +kernel
theorem dX0_set_157 : decode cX0_set 157 = .ok (.aload_n 0, 1) := by decide +kernel
theorem dX0_set_158 : decode cX0_set 158 = .ok (.iload_n 2, 1) := by decide +kernel
theorem dX0_set_159 : decode cX0_set 159 = .ok (.putfield 32, 3) := by decide +kernel
theorem dX0_set_162 : decode cX0_set 162 = .ok (.goto 3, 3) := by decide +kernel
theorem dX0_set_165 : decode cX0_set 165 = .ok (.return_, 1) := by decide +kernel
theorem dX0_timerEnabled_0 : decode cX0_timerEnabled 0 = .ok (.aload_n 0, 1) := by decide +kernel
theorem dX0_timerEnabled_1 : decode cX0_timerEnabled 1 = .ok (.getfield 16, 3) := by decide +kernel
theorem dX0_timerEnabled_4 : decode cX0_timerEnabled 4 = .ok (.sipush 128, 3) := by decide +kernel
theorem dX0_timerEnabled_7 : decode cX0_timerEnabled 7 = .ok (.iand, 1) := by decide +kernel
theorem dX0_timerEnabled_8 : decode cX0_timerEnabled 8 = .ok (.ifCond .eq 7, 3) := by decide +kernel
theorem dX0_timerEnabled_11 : decode cX0_timerEnabled 11 = .ok (.iconst 1, 1) := by decide +kernel
theorem dX0_timerEnabled_12 : decode cX0_timerEnabled 12 = .ok (.goto 4, 3) := by decide +kernel
theorem dX0_timerEnabled_15 : decode cX0_timerEnabled 15 = .ok (.iconst 0, 1) := by decide +kernel
theorem dX0_timerEnabled_16 : decode cX0_timerEnabled 16 = .ok (.ireturn, 1) := by decide +kernel
theorem dX0_hasOwnEntries_0 : decode cX0_hasOwnEntries 0 = .ok (.aload_n 0, 1) := by decide +kernel
theorem dX0_hasOwnEntries_1 : decode cX0_hasOwnEntries 1 = .ok (.getfield 20, 3) := by decide +kernel
theorem dX0_hasOwnEntries_4 : decode cX0_hasOwnEntries 4 = .ok (.iconst 1, 1) := by decide +kernel
theorem dX0_hasOwnEntries_5 : decode cX0_hasOwnEntries 5 = .ok (.iand, 1) := by decide +kernel
theorem dX0_hasOwnEntries_6 : decode cX0_hasOwnEntries 6 = .ok (.ifCond .eq 7, 3) := by decide +kernel
theorem dX0_hasOwnEntries_9 : decode cX0_hasOwnEntries 9 = .ok (.iconst 1, 1) := by decide +kernel
theorem dX0_hasOwnEntries_10 : decode cX0_hasOwnEntries 10 = .ok (.goto 4, 3) := by decide +kernel
theorem dX0_hasOwnEntries_13 : decode cX0_hasOwnEntries 13 = .ok (.iconst 0, 1) := by decide +kernel
theorem dX0_hasOwnEntries_14 : decode cX0_hasOwnEntries 14 = .ok (.ireturn, 1) := by decide +kernel
theorem dX0_enter_0 : decode cX0_enter 0 = .ok (.aload_n 0, 1) := by decide +kernel
theorem dX0_enter_1 : decode cX0_enter 1 = .ok (.iload_n 1, 1) := by decide +kernel
theorem dX0_enter_2 : decode cX0_enter 2 = .ok (.putfield 26, 3) := by decide +kernel
theorem dX0_enter_5 : decode cX0_enter 5 = .ok (.aload_n 0, 1) := by decide +kernel
theorem dX0_enter_6 : decode cX0_enter 6 = .ok (.iload_n 2, 1) := by decide +kernel
theorem dX0_enter_7 : decode cX0_enter 7 = .ok (.putfield 29, 3) := by decide +kernel
theorem dX0_enter_10 : decode cX0_enter 10 = .ok (.aload_n 0, 1) := by decide +kernel
theorem dX0_enter_11 : decode cX0_enter 11 = .ok (.iload_n 3, 1) := by decide +kernel
theorem dX0_enter_12 : decode cX0_enter 12 = .ok (.putfield 32, 3) := by decide +kernel
theorem dX0_enter_15 : decode cX0_enter 15 = .ok (.aload_n 0, 1) := by decide +kernel
theorem dX0_enter_16 : decode cX0_enter 16 = .ok (.aload_n 0, 1) := by decide +kernel
theorem dX0_enter_17 : decode cX0_enter 17 = .ok (.getfield 7, 3) := by decide +kernel
theorem dX0_enter_20 : decode cX0_enter 20 = .ok (.putfield 13, 3) := by decide +kernel
theorem dX0_enter_23 : decode cX0_enter 23 = .ok (.aload_n 0, 1) := by decide +kernel
theorem dX0_enter_24 : decode cX0_enter 24 = .ok (.iconst 0, 1) := by decide +kernel
theorem dX0_enter_25 : decode cX0_enter 25 = .ok (.putfield 7, 3) := by decide +kernel
theorem dX0_enter_28 : decode cX0_enter 28 = .ok (.aload_n 0, 1) := by decide +kernel
theorem dX0_enter_29 : decode cX0_enter 29 = .ok (.getfield 20, 3) := by decide +kernel
theorem dX0_enter_32 : decode cX0_enter 32 = .ok (.bipush (-4), 2) := by decide +kernel
theorem dX0_enter_34 : decode cX0_enter 34 = .ok (.iand, 1) := by decide +kernel
theorem dX0_enter_35 : decode cX0_enter 35 = .ok (.ireturn, 1) := by decide +kernel
theorem dX0_leave_0 : decode cX0_leave 0 = .ok (.aload_n 0, 1) := by decide +kernel
theorem dX0_leave_1 : decode cX0_leave 1 = .ok (.aload_n 0, 1) := by decide +kernel
theorem dX0_leave_2 : decode cX0_leave 2 = .ok (.getfield 13, 3) := by decide +kernel
theorem dX0_leave_5 : decode cX0_leave 5 = .ok (.putfield 7, 3) := by decide +kernel
theorem dX0_leave_8 : decode cX0_leave 8 = .ok (.aload_n 0, 1) := by decide +kernel
theorem dX0_leave_9 : decode cX0_leave 9 = .ok (.iconst 1, 1) := by decide +kernel
theorem dX0_leave_10 : decode cX0_leave 10 = .ok (.putfield 13, 3) := by decide +kernel
theorem dX0_leave_13 : decode cX0_leave 13 = .ok (.aload_n 0, 1) := by decide +kernel
theorem dX0_leave_14 : decode cX0_leave 14 = .ok (.getfield 26, 3) := by decide +kernel
theorem dX0_leave_17 : decode cX0_leave 17 = .ok (.ireturn, 1) := by decide +kernel
theorem dX1_init_0 : decode cX1_init 0 = .ok (.aload_n 0, 1) := by decide +kernel
theorem dX1_init_1 : decode cX1_init 1 = .ok (.invokespecial 1, 3) := by decide +kernel
theorem dX1_init_4 : decode cX1_init 4 = .ok (.aload_n 0, 1) := by decide +kernel
theorem dX1_init_5 : decode cX1_init 5 = .ok (.iload_n 1, 1) := by decide +kernel
theorem dX1_init_6 : decode cX1_init 6 = .ok (.iconst 2, 1) := by decide +kernel
theorem dX1_init_7 : decode cX1_init 7 = .ok (.ishr, 1) := by decide +kernel
theorem dX1_init_8 : decode cX1_init 8 = .ok (.newarray .int, 2) := by decide +kernel
theorem dX1_init_10 : decode cX1_init 10 = .ok (.putfield 7, 3) := by decide +kernel
theorem dX1_init_13 : decode cX1_init 13 = .ok (.return_, 1) := by decide +kernel
theorem dX1_holds_0 : decode cX1_holds 0 = .ok (.iload_n 1, 1) := by decide +kernel
theorem dX1_holds_1 : decode cX1_holds 1 = .ok (.ifCond .lt 18, 3) := by decide +kernel
theorem dX1_holds_4 : decode cX1_holds 4 = .ok (.iload_n 1, 1) := by decide +kernel
theorem dX1_holds_5 : decode cX1_holds 5 = .ok (.iconst 2, 1) := by decide +kernel
theorem dX1_holds_6 : decode cX1_holds 6 = .ok (.ishr, 1) := by decide +kernel
theorem dX1_holds_7 : decode cX1_holds 7 = .ok (.aload_n 0, 1) := by decide +kernel
theorem dX1_holds_8 : decode cX1_holds 8 = .ok (.getfield 7, 3) := by decide +kernel
theorem dX1_holds_11 : decode cX1_holds 11 = .ok (.arraylength, 1) := by decide +kernel
theorem dX1_holds_12 : decode cX1_holds 12 = .ok (.if_icmp .ge 7, 3) := by decide +kernel
theorem dX1_holds_15 : decode cX1_holds 15 = .ok (.iconst 1, 1) := by decide +kernel
theorem dX1_holds_16 : decode cX1_holds 16 = .ok (.goto 4, 3) := by decide +kernel
theorem dX1_holds_19 : decode cX1_holds 19 = .ok (.iconst 0, 1) := by decide +kernel
theorem dX1_holds_20 : decode cX1_holds 20 = .ok (.ireturn, 1) := by decide +kernel
theorem dX1_get_0 : decode cX1_get 0 = .ok (.aload_n 0, 1) := by decide +kernel
theorem dX1_get_1 : decode cX1_get 1 = .ok (.getfield 7, 3) := by decide +kernel
theorem dX1_get_4 : decode cX1_get 4 = .ok (.iload_n 1, 1) := by decide +kernel
theorem dX1_get_5 : decode cX1_get 5 = .ok (.iconst 2, 1) := by decide +kernel
theorem dX1_get_6 : decode cX1_get 6 = .ok (.ishr, 1) := by decide +kernel
theorem dX1_get_7 : decode cX1_get 7 = .ok (.iaload, 1) := by decide +kernel
theorem dX1_get_8 : decode cX1_get 8 = .ok (.iload_n 1, 1) := by decide +kernel
theorem dX1_get_9 : decode cX1_get 9 = .ok (.invokestatic 13, 3) := by decide +kernel
theorem dX1_get_12 : decode cX1_get 12 = .ok (.iushr, 1) := by decide +kernel
theorem dX1_get_13 : decode cX1_get 13 = .ok (.iload_n 2, 1) := by decide +kernel
theorem dX1_get_14 : decode cX1_get 14 = .ok (.invokestatic 17, 3) := by decide +kernel
theorem dX1_get_17 : decode cX1_get 17 = .ok (.iand, 1) := by decide +kernel
theorem dX1_get_18 : decode cX1_get 18 = .ok (.ireturn, 1) := by decide +kernel
theorem dX1_put_0 : decode cX1_put 0 = .ok (.iload_n 2, 1) := by decide +kernel
theorem dX1_put_1 : decode cX1_put 1 = .ok (.invokestatic 17, 3) := by decide +kernel
theorem dX1_put_4 : decode cX1_put 4 = .ok (.iload_n 1, 1) := by decide +kernel
theorem dX1_put_5 : decode cX1_put 5 = .ok (.invokestatic 13, 3) := by decide +kernel
theorem dX1_put_8 : decode cX1_put 8 = .ok (.ishl, 1) := by decide +kernel
theorem dX1_put_9 : decode cX1_put 9 = .ok (.istore 4, 2) := by decide +kernel
theorem dX1_put_11 : decode cX1_put 11 = .ok (.aload_n 0, 1) := by decide +kernel
theorem dX1_put_12 : decode cX1_put 12 = .ok (.getfield 7, 3) := by decide +kernel
theorem dX1_put_15 : decode cX1_put 15 = .ok (.iload_n 1, 1) := by decide +kernel
theorem dX1_put_16 : decode cX1_put 16 = .ok (.iconst 2, 1) := by decide +kernel
theorem dX1_put_17 : decode cX1_put 17 = .ok (.ishr, 1) := by decide +kernel
theorem dX1_put_18 : decode cX1_put 18 = .ok (.iaload, 1) := by decide +kernel
theorem dX1_put_19 : decode cX1_put 19 = .ok (.iload 4, 2) := by decide +kernel
theorem dX1_put_21 : decode cX1_put 21 = .ok (.iconst (-1), 1) := by decide +kernel
theorem dX1_put_22 : decode cX1_put 22 = .ok (.ixor, 1) := by decide +kernel
theorem dX1_put_23 : decode cX1_put 23 = .ok (.iand, 1) := by decide +kernel
theorem dX1_put_24 : decode cX1_put 24 = .ok (.istore 5, 2) := by decide +kernel
theorem dX1_put_26 : decode cX1_put 26 = .ok (.aload_n 0, 1) := by decide +kernel
theorem dX1_put_27 : decode cX1_put 27 = .ok (.getfield 7, 3) := by decide +kernel
theorem dX1_put_30 : decode cX1_put 30 = .ok (.iload_n 1, 1) := by decide +kernel
theorem dX1_put_31 : decode cX1_put 31 = .ok (.iconst 2, 1) := by decide +kernel
theorem dX1_put_32 : decode cX1_put 32 = .ok (.ishr, 1) := by decide +kernel
theorem dX1_put_33 : decode cX1_put 33 = .ok (.iload 5, 2) := by decide +kernel
theorem dX1_put_35 : decode cX1_put 35 = .ok (.iload_n 3, 1) := by decide +kernel
theorem dX1_put_36 : decode cX1_put 36 = .ok (.iload_n 1, 1) := by decide +kernel
theorem dX1_put_37 : decode cX1_put 37 = .ok (.invokestatic 13, 3) := by decide +kernel
theorem dX1_put_40 : decode cX1_put 40 = .ok (.ishl, 1) := by decide +kernel
theorem dX1_put_41 : decode cX1_put 41 = .ok (.iload 4, 2) := by decide +kernel
theorem dX1_put_43 : decode cX1_put 43 = .ok (.iand, 1) := by decide +kernel
theorem dX1_put_44 : decode cX1_put 44 = .ok (.ior, 1) := by decide +kernel
theorem dX1_put_45 : decode cX1_put 45 = .ok (.iastore, 1) := by decide +kernel
theorem dX1_put_46 : decode cX1_put 46 = .ok (.return_, 1) := by decide +kernel
theorem dX1_shift_0 : decode cX1_shift 0 = .ok (.iload_n 0, 1) := by decide +kernel
theorem dX1_shift_1 : decode cX1_shift 1 = .ok (.iconst 3, 1) := by decide +kernel
theorem dX1_shift_2 : decode cX1_shift 2 = .ok (.iand, 1) := by decide +kernel
theorem dX1_shift_3 : decode cX1_shift 3 = .ok (.bipush 8, 2) := by decide +kernel
theorem dX1_shift_5 : decode cX1_shift 5 = .ok (.imul, 1) := by decide +kernel
theorem dX1_shift_6 : decode cX1_shift 6 = .ok (.ireturn, 1) := by decide +kernel
theorem dX1_mask_0 : decode cX1_mask 0 = .ok (.iconst (-1), 1) := by decide +kernel
theorem dX1_mask_1 : decode cX1_mask 1 = .ok (.bipush 32, 2) := by decide +kernel
theorem dX1_mask_3 : decode cX1_mask 3 = .ok (.bipush 8, 2) := by decide +kernel
theorem dX1_mask_5 : decode cX1_mask 5 = .ok (.iload_n 0, 1) := by decide +kernel
theorem dX1_mask_6 : decode cX1_mask 6 = .ok (.imul, 1) := by decide +kernel
theorem dX1_mask_7 : decode cX1_mask 7 = .ok (.isub, 1) := by decide +kernel
theorem dX1_mask_8 : decode cX1_mask 8 = .ok (.iushr, 1) := by decide +kernel
theorem dX1_mask_9 : decode cX1_mask 9 = .ok (.ireturn, 1) := by decide +kernel
theorem dX2_init_0 : decode cX2_init 0 = .ok (.aload_n 0, 1) := by decide +kernel
theorem dX2_init_1 : decode cX2_init 1 = .ok (.invokespecial 1, 3) := by decide +kernel
theorem dX2_init_4 : decode cX2_init 4 = .ok (.aload_n 0, 1) := by decide +kernel
theorem dX2_init_5 : decode cX2_init 5 = .ok (.iload_n 1, 1) := by decide +kernel
theorem dX2_init_6 : decode cX2_init 6 = .ok (.newarray .byte, 2) := by decide +kernel
theorem dX2_init_8 : decode cX2_init 8 = .ok (.putfield 7, 3) := by decide +kernel
theorem dX2_init_11 : decode cX2_init 11 = .ok (.return_, 1) := by decide +kernel
theorem dX2_restart_0 : decode cX2_restart 0 = .ok (.aload_n 0, 1) := by decide +kernel
theorem dX2_restart_1 : decode cX2_restart 1 = .ok (.iconst 0, 1) := by decide +kernel
theorem dX2_restart_2 : decode cX2_restart 2 = .ok (.putfield 13, 3) := by decide +kernel
theorem dX2_restart_5 : decode cX2_restart 5 = .ok (.return_, 1) := by decide +kernel
theorem dX2_room_0 : decode cX2_room 0 = .ok (.aload_n 0, 1) := by decide +kernel
theorem dX2_room_1 : decode cX2_room 1 = .ok (.getfield 7, 3) := by decide +kernel
theorem dX2_room_4 : decode cX2_room 4 = .ok (.arraylength, 1) := by decide +kernel
theorem dX2_room_5 : decode cX2_room 5 = .ok (.aload_n 0, 1) := by decide +kernel
theorem dX2_room_6 : decode cX2_room 6 = .ok (.getfield 13, 3) := by decide +kernel
theorem dX2_room_9 : decode cX2_room 9 = .ok (.isub, 1) := by decide +kernel
theorem dX2_room_10 : decode cX2_room 10 = .ok (.ireturn, 1) := by decide +kernel
theorem dX2_send_0 : decode cX2_send 0 = .ok (.aload_n 0, 1) := by decide +kernel
theorem dX2_send_1 : decode cX2_send 1 = .ok (.getfield 13, 3) := by decide +kernel
theorem dX2_send_4 : decode cX2_send 4 = .ok (.aload_n 0, 1) := by decide +kernel
theorem dX2_send_5 : decode cX2_send 5 = .ok (.getfield 7, 3) := by decide +kernel
theorem dX2_send_8 : decode cX2_send 8 = .ok (.arraylength, 1) := by decide +kernel
theorem dX2_send_9 : decode cX2_send 9 = .ok (.if_icmp .lt 5, 3) := by decide +kernel
theorem dX2_send_12 : decode cX2_send 12 = .ok (.iconst 0, 1) := by decide +kernel
theorem dX2_send_13 : decode cX2_send 13 = .ok (.ireturn, 1) := by decide +kernel
theorem dX2_send_14 : decode cX2_send 14 = .ok (.aload_n 0, 1) := by decide +kernel
theorem dX2_send_15 : decode cX2_send 15 = .ok (.getfield 7, 3) := by decide +kernel
theorem dX2_send_18 : decode cX2_send 18 = .ok (.aload_n 0, 1) := by decide +kernel
theorem dX2_send_19 : decode cX2_send 19 = .ok (.getfield 13, 3) := by decide +kernel
theorem dX2_send_22 : decode cX2_send 22 = .ok (.iload_n 1, 1) := by decide +kernel
theorem dX2_send_23 : decode cX2_send 23 = .ok (.i2b, 1) := by decide +kernel
theorem dX2_send_24 : decode cX2_send 24 = .ok (.bastore, 1) := by decide +kernel
theorem dX2_send_25 : decode cX2_send 25 = .ok (.aload_n 0, 1) := by decide +kernel
theorem dX2_send_26 : decode cX2_send 26 = .ok (.dup, 1) := by decide +kernel
theorem dX2_send_27 : decode cX2_send 27 = .ok (.getfield 13, 3) := by decide +kernel
theorem dX2_send_30 : decode cX2_send 30 = .ok (.iconst 1, 1) := by decide +kernel
theorem dX2_send_31 : decode cX2_send 31 = .ok (.iadd, 1) := by decide +kernel
theorem dX2_send_32 : decode cX2_send 32 = .ok (.putfield 13, 3) := by decide +kernel
theorem dX2_send_35 : decode cX2_send 35 = .ok (.iconst 1, 1) := by decide +kernel
theorem dX2_send_36 : decode cX2_send 36 = .ok (.ireturn, 1) := by decide +kernel
theorem dX2_byteAt_0 : decode cX2_byteAt 0 = .ok (.iload_n 1, 1) := by decide +kernel
theorem dX2_byteAt_1 : decode cX2_byteAt 1 = .ok (.ifCond .lt 33, 3) := by decide +kernel
theorem dX2_byteAt_4 : decode cX2_byteAt 4 = .ok (.iload_n 1, 1) := by decide +kernel
theorem dX2_byteAt_5 : decode cX2_byteAt 5 = .ok (.aload_n 0, 1) := by decide +kernel
theorem dX2_byteAt_6 : decode cX2_byteAt 6 = .ok (.getfield 13, 3) := by decide +kernel
theorem dX2_byteAt_9 : decode cX2_byteAt 9 = .ok (.if_icmp .ge 25, 3) := by decide +kernel
theorem dX2_byteAt_12 : decode cX2_byteAt 12 = .ok (.iload_n 1, 1) := by decide +kernel
theorem dX2_byteAt_13 : decode cX2_byteAt 13 = .ok (.aload_n 0, 1) := by decide +kernel
theorem dX2_byteAt_14 : decode cX2_byteAt 14 = .ok (.getfield 7, 3) := by decide +kernel
theorem dX2_byteAt_17 : decode cX2_byteAt 17 = .ok (.arraylength, 1) := by decide +kernel
theorem dX2_byteAt_18 : decode cX2_byteAt 18 = .ok (.if_icmp .ge 16, 3) := by decide +kernel
theorem dX2_byteAt_21 : decode cX2_byteAt 21 = .ok (.aload_n 0, 1) := by decide +kernel
theorem dX2_byteAt_22 : decode cX2_byteAt 22 = .ok (.getfield 7, 3) := by decide +kernel
theorem dX2_byteAt_25 : decode cX2_byteAt 25 = .ok (.iload_n 1, 1) := by decide +kernel
theorem dX2_byteAt_26 : decode cX2_byteAt 26 = .ok (.baload, 1) := by decide +kernel
theorem dX2_byteAt_27 : decode cX2_byteAt 27 = .ok (.sipush 255, 3) := by decide +kernel
theorem dX2_byteAt_30 : decode cX2_byteAt 30 = .ok (.iand, 1) := by decide +kernel
theorem dX2_byteAt_31 : decode cX2_byteAt 31 = .ok (.goto 4, 3) := by decide +kernel
theorem dX2_byteAt_34 : decode cX2_byteAt 34 = .ok (.iconst (-1), 1) := by decide +kernel
theorem dX2_byteAt_35 : decode cX2_byteAt 35 = .ok (.ireturn, 1) := by decide +kernel
theorem dX3_init_0 : decode cX3_init 0 = .ok (.aload_n 0, 1) := by decide +kernel
theorem dX3_init_1 : decode cX3_init 1 = .ok (.invokespecial 1, 3) := by decide +kernel
theorem dX3_init_4 : decode cX3_init 4 = .ok (.return_, 1) := by decide +kernel
theorem dX3_restart_0 : decode cX3_restart 0 = .ok (.aload_n 0, 1) := by decide +kernel
theorem dX3_restart_1 : decode cX3_restart 1 = .ok (.lconst 0, 1) := by decide +kernel
theorem dX3_restart_2 : decode cX3_restart 2 = .ok (.putfield 7, 3) := by decide +kernel
theorem dX3_restart_5 : decode cX3_restart 5 = .ok (.aload_n 0, 1) := by decide +kernel
theorem dX3_restart_6 : decode cX3_restart 6 = .ok (.ldc2_w 13, 3) := by decide +kernel
theorem dX3_restart_9 : decode cX3_restart 9 = .ok (.putfield 15, 3) := by decide +kernel
theorem dX3_restart_12 : decode cX3_restart 12 = .ok (.return_, 1) := by decide +kernel
theorem dX3_advance_0 : decode cX3_advance 0 = .ok (.aload_n 0, 1) := by decide +kernel
theorem dX3_advance_1 : decode cX3_advance 1 = .ok (.dup, 1) := by decide +kernel
theorem dX3_advance_2 : decode cX3_advance 2 = .ok (.getfield 7, 3) := by decide +kernel
theorem dX3_advance_5 : decode cX3_advance 5 = .ok (.lconst 1, 1) := by decide +kernel
theorem dX3_advance_6 : decode cX3_advance 6 = .ok (.ladd, 1) := by decide +kernel
theorem dX3_advance_7 : decode cX3_advance 7 = .ok (.putfield 7, 3) := by decide +kernel
theorem dX3_advance_10 : decode cX3_advance 10 = .ok (.return_, 1) := by decide +kernel
theorem dX3_isDue_0 : decode cX3_isDue 0 = .ok (.aload_n 0, 1) := by decide +kernel
theorem dX3_isDue_1 : decode cX3_isDue 1 = .ok (.getfield 7, 3) := by decide +kernel
theorem dX3_isDue_4 : decode cX3_isDue 4 = .ok (.aload_n 0, 1) := by decide +kernel
theorem dX3_isDue_5 : decode cX3_isDue 5 = .ok (.getfield 15, 3) := by decide +kernel
theorem dX3_isDue_8 : decode cX3_isDue 8 = .ok (.invokestatic 18, 3) := by decide +kernel
theorem dX3_isDue_11 : decode cX3_isDue 11 = .ok (.ifCond .lt 7, 3) := by decide +kernel
theorem dX3_isDue_14 : decode cX3_isDue 14 = .ok (.iconst 1, 1) := by decide +kernel
theorem dX3_isDue_15 : decode cX3_isDue 15 = .ok (.goto 4, 3) := by decide +kernel
theorem dX3_isDue_18 : decode cX3_isDue 18 = .ok (.iconst 0, 1) := by decide +kernel
theorem dX3_isDue_19 : decode cX3_isDue 19 = .ok (.ireturn, 1) := by decide +kernel
theorem dX3_holds_0 : decode cX3_holds 0 = .ok (.iload_n 0, 1) := by decide +kernel
theorem dX3_holds_1 : decode cX3_holds 1 = .ok (.ldc 24, 2) := by decide +kernel
theorem dX3_holds_3 : decode cX3_holds 3 = .ok (.if_icmp .eq 21, 3) := by decide +kernel
theorem dX3_holds_6 : decode cX3_holds 6 = .ok (.iload_n 0, 1) := by decide +kernel
theorem dX3_holds_7 : decode cX3_holds 7 = .ok (.ldc 25, 2) := by decide +kernel
theorem dX3_holds_9 : decode cX3_holds 9 = .ok (.if_icmp .eq 15, 3) := by decide +kernel
theorem dX3_holds_12 : decode cX3_holds 12 = .ok (.iload_n 0, 1) := by decide +kernel
theorem dX3_holds_13 : decode cX3_holds 13 = .ok (.ldc 26, 2) := by decide +kernel
theorem dX3_holds_15 : decode cX3_holds 15 = .ok (.if_icmp .eq 9, 3) := by decide +kernel
theorem dX3_holds_18 : decode cX3_holds 18 = .ok (.iload_n 0, 1) := by decide +kernel
theorem dX3_holds_19 : decode cX3_holds 19 = .ok (.ldc 27, 2) := by decide +kernel
theorem dX3_holds_21 : decode cX3_holds 21 = .ok (.if_icmp .ne 7, 3) := by decide +kernel
theorem dX3_holds_24 : decode cX3_holds 24 = .ok (.iconst 1, 1) := by decide +kernel
theorem dX3_holds_25 : decode cX3_holds 25 = .ok (.goto 4, 3) := by decide +kernel
theorem dX3_holds_28 : decode cX3_holds 28 = .ok (.iconst 0, 1) := by decide +kernel
theorem dX3_holds_29 : decode cX3_holds 29 = .ok (.ireturn, 1) := by decide +kernel
theorem dX3_half_0 : decode cX3_half 0 = .ok (.iload_n 1, 1) := by decide +kernel
theorem dX3_half_1 : decode cX3_half 1 = .ok (.invokestatic 28, 3) := by decide +kernel
theorem dX3_half_4 : decode cX3_half 4 = .ok (.ifCond .eq 10, 3) := by decide +kernel
theorem dX3_half_7 : decode cX3_half 7 = .ok (.aload_n 0, 1) := by decide +kernel
theorem dX3_half_8 : decode cX3_half 8 = .ok (.getfield 7, 3) := by decide +kernel
theorem dX3_half_11 : decode cX3_half 11 = .ok (.goto 7, 3) := by decide +kernel
theorem dX3_half_14 : decode cX3_half 14 = .ok (.aload_n 0, 1) := by decide +kernel
theorem dX3_half_15 : decode cX3_half 15 = .ok (.getfield 15, 3) := by decide +kernel
theorem dX3_half_18 : decode cX3_half 18 = .ok (.lstore_n 2, 1) := by decide +kernel
theorem dX3_half_19 : decode cX3_half 19 = .ok (.iload_n 1, 1) := by decide +kernel
theorem dX3_half_20 : decode cX3_half 20 = .ok (.invokestatic 32, 3) := by decide +kernel
theorem dX3_half_23 : decode cX3_half 23 = .ok (.ifCond .eq 10, 3) := by decide +kernel
theorem dX3_half_26 : decode cX3_half 26 = .ok (.lload_n 2, 1) := by decide +kernel
theorem dX3_half_27 : decode cX3_half 27 = .ok (.bipush 32, 2) := by decide +kernel
theorem dX3_half_29 : decode cX3_half 29 = .ok (.lushr, 1) := by decide +kernel
theorem dX3_half_30 : decode cX3_half 30 = .ok (.goto 4, 3) := by decide +kernel
theorem dX3_half_33 : decode cX3_half 33 = .ok (.lload_n 2, 1) := by decide +kernel
theorem dX3_half_34 : decode cX3_half 34 = .ok (.l2i, 1) := by decide +kernel
theorem dX3_half_35 : decode cX3_half 35 = .ok (.ireturn, 1) := by decide +kernel
theorem dX3_setHalf_0 : decode cX3_setHalf 0 = .ok (.iload_n 1, 1) := by decide +kernel
theorem dX3_setHalf_1 : decode cX3_setHalf 1 = .ok (.invokestatic 28, 3) := by decide +kernel
theorem dX3_setHalf_4 : decode cX3_setHalf 4 = .ok (.ifCond .eq 22, 3) := by decide +kernel
theorem dX3_setHalf_7 : decode cX3_setHalf 7 = .ok (.aload_n 0, 1) := by decide +kernel
theorem dX3_setHalf_8 : decode cX3_setHalf 8 = .ok (.aload_n 0, 1) := by decide +kernel
theorem dX3_setHalf_9 : decode cX3_setHalf 9 = .ok (.getfield 7, 3) := by decide +kernel
theorem dX3_setHalf_12 : decode cX3_setHalf 12 = .ok (.iload_n 1, 1) := by decide +kernel
theorem dX3_setHalf_13 : decode cX3_setHalf 13 = .ok (.invokestatic 32, 3) := by decide +kernel
theorem dX3_setHalf_16 : decode cX3_setHalf 16 = .ok (.iload_n 2, 1) := by decide +kernel
theorem dX3_setHalf_17 : decode cX3_setHalf 17 = .ok (.invokestatic 35, 3) := by decide +kernel
theorem dX3_setHalf_20 : decode cX3_setHalf 20 = .ok (.putfield 7, 3) := by decide +kernel
theorem dX3_setHalf_23 : decode cX3_setHalf 23 = .ok (.goto 19, 3) := by decide +kernel
theorem dX3_setHalf_26 : decode cX3_setHalf 26 = .ok (.aload_n 0, 1) := by decide +kernel
theorem dX3_setHalf_27 : decode cX3_setHalf 27 = .ok (.aload_n 0, 1) := by decide +kernel
theorem dX3_setHalf_28 : decode cX3_setHalf 28 = .ok (.getfield 15, 3) := by decide +kernel
theorem dX3_setHalf_31 : decode cX3_setHalf 31 = .ok (.iload_n 1, 1) := by decide +kernel
theorem dX3_setHalf_32 : decode cX3_setHalf 32 = .ok (.invokestatic 32, 3) := by decide +kernel
theorem dX3_setHalf_35 : decode cX3_setHalf 35 = .ok (.iload_n 2, 1) := by decide +kernel
theorem dX3_setHalf_36 : decode cX3_setHalf 36 = .ok (.invokestatic 35, 3) := by decide +kernel
theorem dX3_setHalf_39 : decode cX3_setHalf 39 = .ok (.putfield 15, 3) := by decide +kernel
theorem dX3_setHalf_42 : decode cX3_setHalf 42 = .ok (.return_, 1) := by decide +kernel
theorem dX3_isTime_0 : decode cX3_isTime 0 = .ok (.iload_n 0, 1) := by decide +kernel
theorem dX3_isTime_1 : decode cX3_isTime 1 = .ok (.ldc 24, 2) := by decide +kernel
theorem dX3_isTime_3 : decode cX3_isTime 3 = .ok (.if_icmp .eq 9, 3) := by decide +kernel
theorem dX3_isTime_6 : decode cX3_isTime 6 = .ok (.iload_n 0, 1) := by decide +kernel
theorem dX3_isTime_7 : decode cX3_isTime 7 = .ok (.ldc 25, 2) := by decide +kernel
theorem dX3_isTime_9 : decode cX3_isTime 9 = .ok (.if_icmp .ne 7, 3) := by decide +kernel
theorem dX3_isTime_12 : decode cX3_isTime 12 = .ok (.iconst 1, 1) := by decide +kernel
theorem dX3_isTime_13 : decode cX3_isTime 13 = .ok (.goto 4, 3) := by decide +kernel
theorem dX3_isTime_16 : decode cX3_isTime 16 = .ok (.iconst 0, 1) := by decide +kernel
theorem dX3_isTime_17 : decode cX3_isTime 17 = .ok (.ireturn, 1) := by decide +kernel
theorem dX3_isUpper_0 : decode cX3_isUpper 0 = .ok (.iload_n 0, 1) := by decide +kernel
theorem dX3_isUpper_1 : decode cX3_isUpper 1 = .ok (.ldc 25, 2) := by decide +kernel
theorem dX3_isUpper_3 : decode cX3_isUpper 3 = .ok (.if_icmp .eq 9, 3) := by decide +kernel
theorem dX3_isUpper_6 : decode cX3_isUpper 6 = .ok (.iload_n 0, 1) := by decide +kernel
theorem dX3_isUpper_7 : decode cX3_isUpper 7 = .ok (.ldc 27, 2) := by decide +kernel
theorem dX3_isUpper_9 : decode cX3_isUpper 9 = .ok (.if_icmp .ne 7, 3) := by decide +kernel
theorem dX3_isUpper_12 : decode cX3_isUpper 12 = .ok (.iconst 1, 1) := by decide +kernel
theorem dX3_isUpper_13 : decode cX3_isUpper 13 = .ok (.goto 4, 3) := by decide +kernel
theorem dX3_isUpper_16 : decode cX3_isUpper 16 = .ok (.iconst 0, 1) := by decide +kernel
theorem dX3_isUpper_17 : decode cX3_isUpper 17 = .ok (.ireturn, 1) := by decide +kernel
theorem dX3_withHalf_0 : decode cX3_withHalf 0 = .ok (.iload_n 2, 1) := by decide +kernel
theorem dX3_withHalf_1 : decode cX3_withHalf 1 = .ok (.ifCond .eq 17, 3) := by decide +kernel
theorem dX3_withHalf_4 : decode cX3_withHalf 4 = .ok (.lload_n 0, 1) := by decide +kernel
theorem dX3_withHalf_5 : decode cX3_withHalf 5 = .ok (.ldc2_w 39, 3) := by decide +kernel
theorem dX3_withHalf_8 : decode cX3_withHalf 8 = .ok (.land, 1) := by decide +kernel
theorem dX3_withHalf_9 : decode cX3_withHalf 9 = .ok (.iload_n 3, 1) := by decide +kernel
theorem dX3_withHalf_10 : decode cX3_withHalf 10 = .ok (.i2l, 1) := by decide +kernel
theorem dX3_withHalf_11 : decode cX3_withHalf 11 = .ok (.bipush 32, 2) := by decide +kernel
theorem dX3_withHalf_13 : decode cX3_withHalf 13 = .ok (.lshl, 1) := by decide +kernel
theorem dX3_withHalf_14 : decode cX3_withHalf 14 = .ok (.lor, 1) := by decide +kernel
theorem dX3_withHalf_15 : decode cX3_withHalf 15 = .ok (.goto 13, 3) := by decide +kernel
theorem dX3_withHalf_18 : decode cX3_withHalf 18 = .ok (.lload_n 0, 1) := by decide +kernel
theorem dX3_withHalf_19 : decode cX3_withHalf 19 = .ok (.ldc2_w 41, 3) := by decide +kernel
theorem dX3_withHalf_22 : decode cX3_withHalf 22 = .ok (.land, 1) := by decide +kernel
theorem dX3_withHalf_23 : decode cX3_withHalf 23 = .ok (.iload_n 3, 1) := by decide +kernel
theorem dX3_withHalf_24 : decode cX3_withHalf 24 = .ok (.invokestatic 43, 3) := by decide +kernel
theorem dX3_withHalf_27 : decode cX3_withHalf 27 = .ok (.lor, 1) := by decide +kernel
theorem dX3_withHalf_28 : decode cX3_withHalf 28 = .ok (.lreturn, 1) := by decide +kernel
theorem dX4_init_0 : decode cX4_init 0 = .ok (.aload_n 0, 1) := by decide +kernel
theorem dX4_init_1 : decode cX4_init 1 = .ok (.invokespecial 1, 3) := by decide +kernel
theorem dX4_init_4 : decode cX4_init 4 = .ok (.aload_n 0, 1) := by decide +kernel
theorem dX4_init_5 : decode cX4_init 5 = .ok (.new 7, 3) := by decide +kernel
theorem dX4_init_8 : decode cX4_init 8 = .ok (.dup, 1) := by decide +kernel
theorem dX4_init_9 : decode cX4_init 9 = .ok (.bipush 64, 2) := by decide +kernel
theorem dX4_init_11 : decode cX4_init 11 = .ok (.ldc 11, 2) := by decide +kernel
theorem dX4_init_13 : decode cX4_init 13 = .ok (.iload_n 1, 1) := by decide +kernel
theorem dX4_init_14 : decode cX4_init 14 = .ok (.invokestatic 12, 3) := by decide +kernel
theorem dX4_init_17 : decode cX4_init 17 = .ok (.invokestatic 18, 3) := by decide +kernel
theorem dX4_init_20 : decode cX4_init 20 = .ok (.invokespecial 21, 3) := by decide +kernel
theorem dX4_init_23 : decode cX4_init 23 = .ok (.putfield 24, 3) := by decide +kernel
theorem dX4_init_26 : decode cX4_init 26 = .ok (.aload_n 0, 1) := by decide +kernel
theorem dX4_init_27 : decode cX4_init 27 = .ok (.new 28, 3) := by decide +kernel
theorem dX4_init_30 : decode cX4_init 30 = .ok (.dup, 1) := by decide +kernel
theorem dX4_init_31 : decode cX4_init 31 = .ok (.invokespecial 30, 3) := by decide +kernel
theorem dX4_init_34 : decode cX4_init 34 = .ok (.putfield 31, 3) := by decide +kernel
theorem dX4_init_37 : decode cX4_init 37 = .ok (.aload_n 0, 1) := by decide +kernel
theorem dX4_init_38 : decode cX4_init 38 = .ok (.new 35, 3) := by decide +kernel
theorem dX4_init_41 : decode cX4_init 41 = .ok (.dup, 1) := by decide +kernel
theorem dX4_init_42 : decode cX4_init 42 = .ok (.iconst 0, 1) := by decide +kernel
theorem dX4_init_43 : decode cX4_init 43 = .ok (.sipush 4096, 3) := by decide +kernel
theorem dX4_init_46 : decode cX4_init 46 = .ok (.iload_n 2, 1) := by decide +kernel
theorem dX4_init_47 : decode cX4_init 47 = .ok (.invokestatic 12, 3) := by decide +kernel
theorem dX4_init_50 : decode cX4_init 50 = .ok (.invokestatic 18, 3) := by decide +kernel
theorem dX4_init_53 : decode cX4_init 53 = .ok (.invokespecial 37, 3) := by decide +kernel
theorem dX4_init_56 : decode cX4_init 56 = .ok (.putfield 38, 3) := by decide +kernel
theorem dX4_init_59 : decode cX4_init 59 = .ok (.aload_n 0, 1) := by decide +kernel
theorem dX4_init_60 : decode cX4_init 60 = .ok (.new 42, 3) := by decide +kernel
theorem dX4_init_63 : decode cX4_init 63 = .ok (.dup, 1) := by decide +kernel
theorem dX4_init_64 : decode cX4_init 64 = .ok (.invokespecial 44, 3) := by decide +kernel
theorem dX4_init_67 : decode cX4_init 67 = .ok (.putfield 45, 3) := by decide +kernel
theorem dX4_init_70 : decode cX4_init 70 = .ok (.aload_n 0, 1) := by decide +kernel
theorem dX4_init_71 : decode cX4_init 71 = .ok (.bipush 32, 2) := by decide +kernel
theorem dX4_init_73 : decode cX4_init 73 = .ok (.newarray .int, 2) := by decide +kernel
theorem dX4_init_75 : decode cX4_init 75 = .ok (.putfield 49, 3) := by decide +kernel
theorem dX4_init_78 : decode cX4_init 78 = .ok (.aload_n 0, 1) := by decide +kernel
theorem dX4_init_79 : decode cX4_init 79 = .ok (.invokevirtual 53, 3) := by decide +kernel
theorem dX4_init_82 : decode cX4_init 82 = .ok (.return_, 1) := by decide +kernel
theorem dX4_reset_0 : decode cX4_reset 0 = .ok (.iconst 0, 1) := by decide +kernel
theorem dX4_reset_1 : decode cX4_reset 1 = .ok (.istore_n 1, 1) := by decide +kernel
theorem dX4_reset_2 : decode cX4_reset 2 = .ok (.iload_n 1, 1) := by decide +kernel
theorem dX4_reset_3 : decode cX4_reset 3 = .ok (.aload_n 0, 1) := by decide +kernel
theorem dX4_reset_4 : decode cX4_reset 4 = .ok (.getfield 49, 3) := by decide +kernel
theorem dX4_reset_7 : decode cX4_reset 7 = .ok (.arraylength, 1) := by decide +kernel
theorem dX4_reset_8 : decode cX4_reset 8 = .ok (.if_icmp .ge 16, 3) := by decide +kernel
theorem dX4_reset_11 : decode cX4_reset 11 = .ok (.aload_n 0, 1) := by decide +kernel
theorem dX4_reset_12 : decode cX4_reset 12 = .ok (.getfield 49, 3) := by decide +kernel
theorem dX4_reset_15 : decode cX4_reset 15 = .ok (.iload_n 1, 1) := by decide +kernel
theorem dX4_reset_16 : decode cX4_reset 16 = .ok (.iconst 0, 1) := by decide +kernel
theorem dX4_reset_17 : decode cX4_reset 17 = .ok (.iastore, 1) := by decide +kernel
theorem dX4_reset_18 : decode cX4_reset 18 = .ok (.iinc 1 1, 3) := by decide +kernel
theorem dX4_reset_21 : decode cX4_reset 21 = .ok (.goto (-19), 3) := by decide +kernel
theorem dX4_reset_24 : decode cX4_reset 24 = .ok (.aload_n 0, 1) := by decide +kernel
theorem dX4_reset_25 : decode cX4_reset 25 = .ok (.iconst 0, 1) := by decide +kernel
theorem dX4_reset_26 : decode cX4_reset 26 = .ok (.putfield 56, 3) := by decide +kernel
theorem dX4_reset_29 : decode cX4_reset 29 = .ok (.aload_n 0, 1) := by decide +kernel
theorem dX4_reset_30 : decode cX4_reset 30 = .ok (.iconst 0, 1) := by decide +kernel
theorem dX4_reset_31 : decode cX4_reset 31 = .ok (.putfield 60, 3) := by decide +kernel
theorem dX4_reset_34 : decode cX4_reset 34 = .ok (.aload_n 0, 1) := by decide +kernel
theorem dX4_reset_35 : decode cX4_reset 35 = .ok (.lconst 0, 1) := by decide +kernel
theorem dX4_reset_36 : decode cX4_reset 36 = .ok (.putfield 64, 3) := by decide +kernel
theorem dX4_reset_39 : decode cX4_reset 39 = .ok (.aload_n 0, 1) := by decide +kernel
theorem dX4_reset_40 : decode cX4_reset 40 = .ok (.iconst 0, 1) := by decide +kernel
theorem dX4_reset_41 : decode cX4_reset 41 = .ok (.putfield 68, 3) := by decide +kernel
theorem dX4_reset_44 : decode cX4_reset 44 = .ok (.aload_n 0, 1) := by decide +kernel
theorem dX4_reset_45 : decode cX4_reset 45 = .ok (.getfield 31, 3) := by decide +kernel
theorem dX4_reset_48 : decode cX4_reset 48 = .ok (.invokevirtual 71, 3) := by decide +kernel
theorem dX4_reset_51 : decode cX4_reset 51 = .ok (.aload_n 0, 1) := by decide +kernel
theorem dX4_reset_52 : decode cX4_reset 52 = .ok (.getfield 38, 3) := by decide +kernel
theorem dX4_reset_55 : decode cX4_reset 55 = .ok (.invokevirtual 74, 3) := by decide +kernel
theorem dX4_reset_58 : decode cX4_reset 58 = .ok (.aload_n 0, 1) := by decide +kernel
theorem dX4_reset_59 : decode cX4_reset 59 = .ok (.getfield 45, 3) := by decide +kernel
theorem dX4_reset_62 : decode cX4_reset 62 = .ok (.invokevirtual 75, 3) := by decide +kernel
theorem dX4_reset_65 : decode cX4_reset 65 = .ok (.return_, 1) := by decide +kernel
theorem dX4_poke_0 : decode cX4_poke 0 = .ok (.aload_n 0, 1) := by decide +kernel
theorem dX4_poke_1 : decode cX4_poke 1 = .ok (.getfield 24, 3) := by decide +kernel
theorem dX4_poke_4 : decode cX4_poke 4 = .ok (.iload_n 1, 1) := by decide +kernel
theorem dX4_poke_5 : decode cX4_poke 5 = .ok (.invokevirtual 76, 3) := by decide +kernel
theorem dX4_poke_8 : decode cX4_poke 8 = .ok (.ifCond .ne 5, 3) := by decide +kernel
theorem dX4_poke_11 : decode cX4_poke 11 = .ok (.iconst 0, 1) := by decide +kernel
theorem dX4_poke_12 : decode cX4_poke 12 = .ok (.ireturn, 1) := by decide +kernel
theorem dX4_poke_13 : decode cX4_poke 13 = .ok (.aload_n 0, 1) := by decide +kernel
theorem dX4_poke_14 : decode cX4_poke 14 = .ok (.getfield 24, 3) := by decide +kernel
theorem dX4_poke_17 : decode cX4_poke 17 = .ok (.iload_n 1, 1) := by decide +kernel
theorem dX4_poke_18 : decode cX4_poke 18 = .ok (.iconst 1, 1) := by decide +kernel
theorem dX4_poke_19 : decode cX4_poke 19 = .ok (.iload_n 2, 1) := by decide +kernel
theorem dX4_poke_20 : decode cX4_poke 20 = .ok (.invokevirtual 80, 3) := by decide +kernel
theorem dX4_poke_23 : decode cX4_poke 23 = .ok (.iconst 1, 1) := by decide +kernel
theorem dX4_poke_24 : decode cX4_poke 24 = .ok (.ireturn, 1) := by decide +kernel
theorem dX4_load_0 : decode cX4_load 0 = .ok (.aload_n 0, 1) := by decide +kernel
theorem dX4_load_1 : decode cX4_load 1 = .ok (.getfield 24, 3) := by decide +kernel
theorem dX4_load_4 : decode cX4_load 4 = .ok (.iload_n 1, 1) := by decide +kernel
theorem dX4_load_5 : decode cX4_load 5 = .ok (.invokevirtual 76, 3) := by decide +kernel
theorem dX4_load_8 : decode cX4_load 8 = .ok (.ifCond .eq 16, 3) := by decide +kernel
theorem dX4_load_11 : decode cX4_load 11 = .ok (.aload_n 0, 1) := by decide +kernel
theorem dX4_load_12 : decode cX4_load 12 = .ok (.getfield 24, 3) := by decide +kernel
theorem dX4_load_15 : decode cX4_load 15 = .ok (.iload_n 1, 1) := by decide +kernel
theorem dX4_load_16 : decode cX4_load 16 = .ok (.iconst 3, 1) := by decide +kernel
theorem dX4_load_17 : decode cX4_load 17 = .ok (.iadd, 1) := by decide +kernel
theorem dX4_load_18 : decode cX4_load 18 = .ok (.invokevirtual 76, 3) := by decide +kernel
theorem dX4_load_21 : decode cX4_load 21 = .ok (.ifCond .ne 5, 3) := by decide +kernel
theorem dX4_load_24 : decode cX4_load 24 = .ok (.iconst 0, 1) := by decide +kernel
theorem dX4_load_25 : decode cX4_load 25 = .ok (.ireturn, 1) := by decide +kernel
theorem dX4_load_26 : decode cX4_load 26 = .ok (.iconst 0, 1) := by decide +kernel
theorem dX4_load_27 : decode cX4_load 27 = .ok (.istore_n 3, 1) := by decide +kernel
theorem dX4_load_28 : decode cX4_load 28 = .ok (.iload_n 3, 1) := by decide +kernel
theorem dX4_load_29 : decode cX4_load 29 = .ok (.iconst 4, 1) := by decide +kernel
theorem dX4_load_30 : decode cX4_load 30 = .ok (.if_icmp .ge 26, 3) := by decide +kernel
theorem dX4_load_33 : decode cX4_load 33 = .ok (.aload_n 0, 1) := by decide +kernel
theorem dX4_load_34 : decode cX4_load 34 = .ok (.getfield 24, 3) := by decide +kernel
theorem dX4_load_37 : decode cX4_load 37 = .ok (.iload_n 1, 1) := by decide +kernel
theorem dX4_load_38 : decode cX4_load 38 = .ok (.iload_n 3, 1) := by decide +kernel
theorem dX4_load_39 : decode cX4_load 39 = .ok (.iadd, 1) := by decide +kernel
theorem dX4_load_40 : decode cX4_load 40 = .ok (.iconst 1, 1) := by decide +kernel
theorem dX4_load_41 : decode cX4_load 41 = .ok (.iload_n 2, 1) := by decide +kernel
theorem dX4_load_42 : decode cX4_load 42 = .ok (.bipush 8, 2) := by decide +kernel
theorem dX4_load_44 : decode cX4_load 44 = .ok (.iload_n 3, 1) := by decide +kernel
theorem dX4_load_45 : decode cX4_load 45 = .ok (.imul, 1) := by decide +kernel
theorem dX4_load_46 : decode cX4_load 46 = .ok (.iushr, 1) := by decide +kernel
theorem dX4_load_47 : decode cX4_load 47 = .ok (.invokevirtual 80, 3) := by decide +kernel
theorem dX4_load_50 : decode cX4_load 50 = .ok (.iinc 3 1, 3) := by decide +kernel
theorem dX4_load_53 : decode cX4_load 53 = .ok (.goto (-25), 3) := by decide +kernel
theorem dX4_load_56 : decode cX4_load 56 = .ok (.iconst 1, 1) := by decide +kernel
theorem dX4_load_57 : decode cX4_load 57 = .ok (.ireturn, 1) := by decide +kernel
theorem dX4_peek_0 : decode cX4_peek 0 = .ok (.aload_n 0, 1) := by decide +kernel
theorem dX4_peek_1 : decode cX4_peek 1 = .ok (.getfield 24, 3) := by decide +kernel
theorem dX4_peek_4 : decode cX4_peek 4 = .ok (.iload_n 1, 1) := by decide +kernel
theorem dX4_peek_5 : decode cX4_peek 5 = .ok (.invokevirtual 76, 3) := by decide +kernel
theorem dX4_peek_8 : decode cX4_peek 8 = .ok (.ifCond .eq 15, 3) := by decide +kernel
theorem dX4_peek_11 : decode cX4_peek 11 = .ok (.aload_n 0, 1) := by decide +kernel
theorem dX4_peek_12 : decode cX4_peek 12 = .ok (.getfield 24, 3) := by decide +kernel
theorem dX4_peek_15 : decode cX4_peek 15 = .ok (.iload_n 1, 1) := by decide +kernel
theorem dX4_peek_16 : decode cX4_peek 16 = .ok (.iconst 1, 1) := by decide +kernel
theorem dX4_peek_17 : decode cX4_peek 17 = .ok (.invokevirtual 84, 3) := by decide +kernel
theorem dX4_peek_20 : decode cX4_peek 20 = .ok (.goto 4, 3) := by decide +kernel
theorem dX4_peek_23 : decode cX4_peek 23 = .ok (.iconst (-1), 1) := by decide +kernel
theorem dX4_peek_24 : decode cX4_peek 24 = .ok (.ireturn, 1) := by decide +kernel
theorem dX4_step_0 : decode cX4_step 0 = .ok (.aload_n 0, 1) := by decide +kernel
theorem dX4_step_1 : decode cX4_step 1 = .ok (.aload_n 0, 1) := by decide +kernel
theorem dX4_step_2 : decode cX4_step 2 = .ok (.invokevirtual 87, 3) := by decide +kernel
theorem dX4_step_5 : decode cX4_step 5 = .ok (.putfield 68, 3) := by decide +kernel
theorem dX4_step_8 : decode cX4_step 8 = .ok (.aload_n 0, 1) := by decide +kernel
theorem dX4_step_9 : decode cX4_step 9 = .ok (.getfield 68, 3) := by decide +kernel
theorem dX4_step_12 : decode cX4_step 12 = .ok (.ireturn, 1) := by decide +kernel
theorem dX4_run_0 : decode cX4_run 0 = .ok (.iload_n 1, 1) := by decide +kernel
theorem dX4_run_1 : decode cX4_run 1 = .ok (.ifCond .lt 9, 3) := by decide +kernel
theorem dX4_run_4 : decode cX4_run 4 = .ok (.iload_n 1, 1) := by decide +kernel
theorem dX4_run_5 : decode cX4_run 5 = .ok (.ldc 91, 2) := by decide +kernel
theorem dX4_run_7 : decode cX4_run 7 = .ok (.if_icmp .le 6, 3) := by decide +kernel
theorem dX4_run_10 : decode cX4_run 10 = .ok (.bipush (-2), 2) := by decide +kernel
theorem dX4_run_12 : decode cX4_run 12 = .ok (.ireturn, 1) := by decide +kernel
theorem dX4_run_13 : decode cX4_run 13 = .ok (.iconst 1, 1) := by decide +kernel
theorem dX4_run_14 : decode cX4_run 14 = .ok (.istore_n 2, 1) := by decide +kernel
theorem dX4_run_15 : decode cX4_run 15 = .ok (.iload_n 2, 1) := by decide +kernel
theorem dX4_run_16 : decode cX4_run 16 = .ok (.iload_n 1, 1) := by decide +kernel
theorem dX4_run_17 : decode cX4_run 17 = .ok (.if_icmp .gt 33, 3) := by decide +kernel
theorem dX4_run_20 : decode cX4_run 20 = .ok (.aload_n 0, 1) := by decide +kernel
theorem dX4_run_21 : decode cX4_run 21 = .ok (.aload_n 0, 1) := by decide +kernel
theorem dX4_run_22 : decode cX4_run 22 = .ok (.invokevirtual 87, 3) := by decide +kernel
theorem dX4_run_25 : decode cX4_run 25 = .ok (.putfield 68, 3) := by decide +kernel
theorem dX4_run_28 : decode cX4_run 28 = .ok (.aload_n 0, 1) := by decide +kernel
theorem dX4_run_29 : decode cX4_run 29 = .ok (.getfield 31, 3) := by decide +kernel
theorem dX4_run_32 : decode cX4_run 32 = .ok (.invokevirtual 92, 3) := by decide +kernel
theorem dX4_run_35 : decode cX4_run 35 = .ok (.aload_n 0, 1) := by decide +kernel
theorem dX4_run_36 : decode cX4_run 36 = .ok (.getfield 68, 3) := by decide +kernel
theorem dX4_run_39 : decode cX4_run 39 = .ok (.ifCond .eq 5, 3) := by decide +kernel
theorem dX4_run_42 : decode cX4_run 42 = .ok (.iload_n 2, 1) := by decide +kernel
theorem dX4_run_43 : decode cX4_run 43 = .ok (.ireturn, 1) := by decide +kernel
theorem dX4_run_44 : decode cX4_run 44 = .ok (.iinc 2 1, 3) := by decide +kernel
theorem dX4_run_47 : decode cX4_run 47 = .ok (.goto (-32), 3) := by decide +kernel
theorem dX4_run_50 : decode cX4_run 50 = .ok (.iload_n 1, 1) := by decide +kernel
theorem dX4_run_51 : decode cX4_run 51 = .ok (.ireturn, 1) := by decide +kernel
theorem dX4_tick_0 : decode cX4_tick 0 = .ok (.aload_n 0, 1) := by decide +kernel
theorem dX4_tick_1 : decode cX4_tick 1 = .ok (.getfield 31, 3) := by decide +kernel
theorem dX4_tick_4 : decode cX4_tick 4 = .ok (.invokevirtual 92, 3) := by decide +kernel
theorem dX4_tick_7 : decode cX4_tick 7 = .ok (.return_, 1) := by decide +kernel
theorem dX4_reg_0 : decode cX4_reg 0 = .ok (.aload_n 0, 1) := by decide +kernel
theorem dX4_reg_1 : decode cX4_reg 1 = .ok (.getfield 49, 3) := by decide +kernel
theorem dX4_reg_4 : decode cX4_reg 4 = .ok (.iload_n 1, 1) := by decide +kernel
theorem dX4_reg_5 : decode cX4_reg 5 = .ok (.bipush 31, 2) := by decide +kernel
theorem dX4_reg_7 : decode cX4_reg 7 = .ok (.iand, 1) := by decide +kernel
theorem dX4_reg_8 : decode cX4_reg 8 = .ok (.iaload, 1) := by decide +kernel
theorem dX4_reg_9 : decode cX4_reg 9 = .ok (.ireturn, 1) := by decide +kernel
theorem dX4_pc_0 : decode cX4_pc 0 = .ok (.aload_n 0, 1) := by decide +kernel
theorem dX4_pc_1 : decode cX4_pc 1 = .ok (.getfield 56, 3) := by decide +kernel
theorem dX4_pc_4 : decode cX4_pc 4 = .ok (.ireturn, 1) := by decide +kernel
theorem dX4_csr_0 : decode cX4_csr 0 = .ok (.iload_n 1, 1) := by decide +kernel
theorem dX4_csr_1 : decode cX4_csr 1 = .ok (.invokestatic 95, 3) := by decide +kernel
theorem dX4_csr_4 : decode cX4_csr 4 = .ok (.ifCond .eq 21, 3) := by decide +kernel
theorem dX4_csr_7 : decode cX4_csr 7 = .ok (.aload_n 0, 1) := by decide +kernel
theorem dX4_csr_8 : decode cX4_csr 8 = .ok (.getfield 45, 3) := by decide +kernel
theorem dX4_csr_11 : decode cX4_csr 11 = .ok (.iload_n 1, 1) := by decide +kernel
theorem dX4_csr_12 : decode cX4_csr 12 = .ok (.aload_n 0, 1) := by decide +kernel
theorem dX4_csr_13 : decode cX4_csr 13 = .ok (.getfield 31, 3) := by decide +kernel
theorem dX4_csr_16 : decode cX4_csr 16 = .ok (.invokevirtual 98, 3) := by decide +kernel
theorem dX4_csr_19 : decode cX4_csr 19 = .ok (.invokevirtual 102, 3) := by decide +kernel
theorem dX4_csr_22 : decode cX4_csr 22 = .ok (.goto 4, 3) := by decide +kernel
theorem dX4_csr_25 : decode cX4_csr 25 = .ok (.iconst 0, 1) := by decide +kernel
theorem dX4_csr_26 : decode cX4_csr 26 = .ok (.ireturn, 1) := by decide +kernel
theorem dX4_told_0 : decode cX4_told 0 = .ok (.iload_n 1, 1) := by decide +kernel
theorem dX4_told_1 : decode cX4_told 1 = .ok (.tableswitch 75 0 4 #[35, 43, 51, 56, 69], 35) := by decide +kernel
theorem dX4_told_36 : decode cX4_told 36 = .ok (.aload_n 0, 1) := by decide +kernel
theorem dX4_told_37 : decode cX4_told 37 = .ok (.getfield 31, 3) := by decide +kernel
theorem dX4_told_40 : decode cX4_told 40 = .ok (.getfield 105, 3) := by decide +kernel
theorem dX4_told_43 : decode cX4_told 43 = .ok (.lreturn, 1) := by decide +kernel
theorem dX4_told_44 : decode cX4_told 44 = .ok (.aload_n 0, 1) := by decide +kernel
theorem dX4_told_45 : decode cX4_told 45 = .ok (.getfield 31, 3) := by decide +kernel
theorem dX4_told_48 : decode cX4_told 48 = .ok (.getfield 108, 3) := by decide +kernel
theorem dX4_told_51 : decode cX4_told 51 = .ok (.lreturn, 1) := by decide +kernel
theorem dX4_told_52 : decode cX4_told 52 = .ok (.aload_n 0, 1) := by decide +kernel
theorem dX4_told_53 : decode cX4_told 53 = .ok (.getfield 64, 3) := by decide +kernel
theorem dX4_told_56 : decode cX4_told 56 = .ok (.lreturn, 1) := by decide +kernel
theorem dX4_told_57 : decode cX4_told 57 = .ok (.aload_n 0, 1) := by decide +kernel
theorem dX4_told_58 : decode cX4_told 58 = .ok (.getfield 60, 3) := by decide +kernel
theorem dX4_told_61 : decode cX4_told 61 = .ok (.ifCond .eq 7, 3) := by decide +kernel
theorem dX4_told_64 : decode cX4_told 64 = .ok (.lconst 1, 1) := by decide +kernel
theorem dX4_told_65 : decode cX4_told 65 = .ok (.goto 4, 3) := by decide +kernel
theorem dX4_told_68 : decode cX4_told 68 = .ok (.lconst 0, 1) := by decide +kernel
theorem dX4_told_69 : decode cX4_told 69 = .ok (.lreturn, 1) := by decide +kernel
theorem dX4_told_70 : decode cX4_told 70 = .ok (.aload_n 0, 1) := by decide +kernel
theorem dX4_told_71 : decode cX4_told 71 = .ok (.getfield 68, 3) := by decide +kernel
theorem dX4_told_74 : decode cX4_told 74 = .ok (.i2l, 1) := by decide +kernel
theorem dX4_told_75 : decode cX4_told 75 = .ok (.lreturn, 1) := by decide +kernel
theorem dX4_told_76 : decode cX4_told 76 = .ok (.lconst 0, 1) := by decide +kernel
theorem dX4_told_77 : decode cX4_told 77 = .ok (.lreturn, 1) := by decide +kernel
theorem dX4_outSize_0 : decode cX4_outSize 0 = .ok (.aload_n 0, 1) := by decide +kernel
theorem dX4_outSize_1 : decode cX4_outSize 1 = .ok (.getfield 38, 3) := by decide +kernel
theorem dX4_outSize_4 : decode cX4_outSize 4 = .ok (.getfield 111, 3) := by decide +kernel
theorem dX4_outSize_7 : decode cX4_outSize 7 = .ok (.ireturn, 1) := by decide +kernel
theorem dX4_out_0 : decode cX4_out 0 = .ok (.aload_n 0, 1) := by decide +kernel
theorem dX4_out_1 : decode cX4_out 1 = .ok (.getfield 38, 3) := by decide +kernel
theorem dX4_out_4 : decode cX4_out 4 = .ok (.iload_n 1, 1) := by decide +kernel
theorem dX4_out_5 : decode cX4_out 5 = .ok (.invokevirtual 114, 3) := by decide +kernel
theorem dX4_out_8 : decode cX4_out 8 = .ok (.ireturn, 1) := by decide +kernel
theorem dX4_stepOnce_0 : decode cX4_stepOnce 0 = .ok (.aload_n 0, 1) := by decide +kernel
theorem dX4_stepOnce_1 : decode cX4_stepOnce 1 = .ok (.getfield 45, 3) := by decide +kernel
theorem dX4_stepOnce_4 : decode cX4_stepOnce 4 = .ok (.invokevirtual 118, 3) := by decide +kernel
theorem dX4_stepOnce_7 : decode cX4_stepOnce 7 = .ok (.ifCond .eq 17, 3) := by decide +kernel
theorem dX4_stepOnce_10 : decode cX4_stepOnce 10 = .ok (.aload_n 0, 1) := by decide +kernel
theorem dX4_stepOnce_11 : decode cX4_stepOnce 11 = .ok (.getfield 31, 3) := by decide +kernel
theorem dX4_stepOnce_14 : decode cX4_stepOnce 14 = .ok (.invokevirtual 98, 3) := by decide +kernel
theorem dX4_stepOnce_17 : decode cX4_stepOnce 17 = .ok (.ifCond .eq 7, 3) := by decide +kernel
theorem dX4_stepOnce_20 : decode cX4_stepOnce 20 = .ok (.iconst 1, 1) := by decide +kernel
theorem dX4_stepOnce_21 : decode cX4_stepOnce 21 = .ok (.goto 4, 3) := by decide +kernel
theorem dX4_stepOnce_24 : decode cX4_stepOnce 24 = .ok (.iconst 0, 1) := by decide +kernel
theorem dX4_stepOnce_25 : decode cX4_stepOnce 25 = .ok (.istore_n 1, 1) := by decide +kernel
theorem dX4_stepOnce_26 : decode cX4_stepOnce 26 = .ok (.iload_n 1, 1) := by decide +kernel
theorem dX4_stepOnce_27 : decode cX4_stepOnce 27 = .ok (.ifCond .eq 57, 3) := by decide +kernel
theorem dX4_stepOnce_30 : decode cX4_stepOnce 30 = .ok (.aload_n 0, 1) := by decide +kernel
theorem dX4_stepOnce_31 : decode cX4_stepOnce 31 = .ok (.getfield 45, 3) := by decide +kernel
theorem dX4_stepOnce_34 : decode cX4_stepOnce 34 = .ok (.getfield 121, 3) := by decide +kernel
theorem dX4_stepOnce_37 : decode cX4_stepOnce 37 = .ok (.ifCond .eq 47, 3) := by decide +kernel
theorem dX4_stepOnce_40 : decode cX4_stepOnce 40 = .ok (.aload_n 0, 1) := by decide +kernel
theorem dX4_stepOnce_41 : decode cX4_stepOnce 41 = .ok (.iconst 0, 1) := by decide +kernel
theorem dX4_stepOnce_42 : decode cX4_stepOnce 42 = .ok (.putfield 60, 3) := by decide +kernel
theorem dX4_stepOnce_45 : decode cX4_stepOnce 45 = .ok (.aload_n 0, 1) := by decide +kernel
theorem dX4_stepOnce_46 : decode cX4_stepOnce 46 = .ok (.getfield 45, 3) := by decide +kernel
theorem dX4_stepOnce_49 : decode cX4_stepOnce 49 = .ok (.aload_n 0, 1) := by decide +kernel
theorem dX4_stepOnce_50 : decode cX4_stepOnce 50 = .ok (.getfield 56, 3) := by decide +kernel
theorem dX4_stepOnce_53 : decode cX4_stepOnce 53 = .ok (.ldc 124, 2) := by decide +kernel
theorem dX4_stepOnce_55 : decode cX4_stepOnce 55 = .ok (.iconst 0, 1) := by decide +kernel
theorem dX4_stepOnce_56 : decode cX4_stepOnce 56 = .ok (.invokevirtual 125, 3) := by decide +kernel
theorem dX4_stepOnce_59 : decode cX4_stepOnce 59 = .ok (.istore_n 2, 1) := by decide +kernel
theorem dX4_stepOnce_60 : decode cX4_stepOnce 60 = .ok (.aload_n 0, 1) := by decide +kernel
theorem dX4_stepOnce_61 : decode cX4_stepOnce 61 = .ok (.aload_n 0, 1) := by decide +kernel
theorem dX4_stepOnce_62 : decode cX4_stepOnce 62 = .ok (.getfield 45, 3) := by decide +kernel
theorem dX4_stepOnce_65 : decode cX4_stepOnce 65 = .ok (.invokevirtual 129, 3) := by decide +kernel
theorem dX4_stepOnce_68 : decode cX4_stepOnce 68 = .ok (.ifCond .eq 10, 3) := by decide +kernel
theorem dX4_stepOnce_71 : decode cX4_stepOnce 71 = .ok (.iload_n 2, 1) := by decide +kernel
theorem dX4_stepOnce_72 : decode cX4_stepOnce 72 = .ok (.bipush 28, 2) := by decide +kernel
theorem dX4_stepOnce_74 : decode cX4_stepOnce 74 = .ok (.iadd, 1) := by decide +kernel
theorem dX4_stepOnce_75 : decode cX4_stepOnce 75 = .ok (.goto 4, 3) := by decide +kernel
theorem dX4_stepOnce_78 : decode cX4_stepOnce 78 = .ok (.iload_n 2, 1) := by decide +kernel
theorem dX4_stepOnce_79 : decode cX4_stepOnce 79 = .ok (.putfield 56, 3) := by decide +kernel
theorem dX4_stepOnce_82 : decode cX4_stepOnce 82 = .ok (.iconst 2, 1) := by decide +kernel
theorem dX4_stepOnce_83 : decode cX4_stepOnce 83 = .ok (.ireturn, 1) := by decide +kernel
theorem dX4_stepOnce_84 : decode cX4_stepOnce 84 = .ok (.aload_n 0, 1) := by decide +kernel
theorem dX4_stepOnce_85 : decode cX4_stepOnce 85 = .ok (.getfield 60, 3) := by decide +kernel
theorem dX4_stepOnce_88 : decode cX4_stepOnce 88 = .ok (.ifCond .eq 9, 3) := by decide +kernel
theorem dX4_stepOnce_91 : decode cX4_stepOnce 91 = .ok (.iload_n 1, 1) := by decide +kernel
theorem dX4_stepOnce_92 : decode cX4_stepOnce 92 = .ok (.ifCond .ne 5, 3) := by decide +kernel
theorem dX4_stepOnce_95 : decode cX4_stepOnce 95 = .ok (.iconst 3, 1) := by decide +kernel
theorem dX4_stepOnce_96 : decode cX4_stepOnce 96 = .ok (.ireturn, 1) := by decide +kernel
theorem dX4_stepOnce_97 : decode cX4_stepOnce 97 = .ok (.aload_n 0, 1) := by decide +kernel
theorem dX4_stepOnce_98 : decode cX4_stepOnce 98 = .ok (.getfield 60, 3) := by decide +kernel
theorem dX4_stepOnce_101 : decode cX4_stepOnce 101 = .ok (.istore_n 2, 1) := by decide +kernel
theorem dX4_stepOnce_102 : decode cX4_stepOnce 102 = .ok (.aload_n 0, 1) := by decide +kernel
theorem dX4_stepOnce_103 : decode cX4_stepOnce 103 = .ok (.iconst 0, 1) := by decide +kernel
theorem dX4_stepOnce_104 : decode cX4_stepOnce 104 = .ok (.putfield 60, 3) := by decide +kernel
theorem dX4_stepOnce_107 : decode cX4_stepOnce 107 = .ok (.aload_n 0, 1) := by decide +kernel
theorem dX4_stepOnce_108 : decode cX4_stepOnce 108 = .ok (.invokevirtual 132, 3) := by decide +kernel
theorem dX4_stepOnce_111 : decode cX4_stepOnce 111 = .ok (.istore_n 3, 1) := by decide +kernel
theorem dX4_stepOnce_112 : decode cX4_stepOnce 112 = .ok (.iload_n 3, 1) := by decide +kernel
theorem dX4_stepOnce_113 : decode cX4_stepOnce 113 = .ok (.iconst 4, 1) := by decide +kernel
theorem dX4_stepOnce_114 : decode cX4_stepOnce 114 = .ok (.if_icmp .ne 8, 3) := by decide +kernel
theorem dX4_stepOnce_117 : decode cX4_stepOnce 117 = .ok (.aload_n 0, 1) := by decide +kernel
theorem dX4_stepOnce_118 : decode cX4_stepOnce 118 = .ok (.iload_n 2, 1) := by decide +kernel
theorem dX4_stepOnce_119 : decode cX4_stepOnce 119 = .ok (.putfield 60, 3) := by decide +kernel
theorem dX4_stepOnce_122 : decode cX4_stepOnce 122 = .ok (.iload_n 3, 1) := by decide +kernel
theorem dX4_stepOnce_123 : decode cX4_stepOnce 123 = .ok (.ireturn, 1) := by decide +kernel
theorem dX4_instruct_0 : decode cX4_instruct 0 = .ok (.aload_n 0, 1) := by decide +kernel
theorem dX4_instruct_1 : decode cX4_instruct 1 = .ok (.getfield 24, 3) := by decide +kernel
theorem dX4_instruct_4 : decode cX4_instruct 4 = .ok (.aload_n 0, 1) := by decide +kernel
theorem dX4_instruct_5 : decode cX4_instruct 5 = .ok (.getfield 56, 3) := by decide +kernel
theorem dX4_instruct_8 : decode cX4_instruct 8 = .ok (.invokevirtual 76, 3) := by decide +kernel
theorem dX4_instruct_11 : decode cX4_instruct 11 = .ok (.ifCond .ne 13, 3) := by decide +kernel
theorem dX4_instruct_14 : decode cX4_instruct 14 = .ok (.aload_n 0, 1) := by decide +kernel
theorem dX4_instruct_15 : decode cX4_instruct 15 = .ok (.iconst 1, 1) := by decide +kernel
theorem dX4_instruct_16 : decode cX4_instruct 16 = .ok (.aload_n 0, 1) := by decide +kernel
theorem dX4_instruct_17 : decode cX4_instruct 17 = .ok (.getfield 56, 3) := by decide +kernel
theorem dX4_instruct_20 : decode cX4_instruct 20 = .ok (.invokevirtual 135, 3) := by decide +kernel
theorem dX4_instruct_23 : decode cX4_instruct 23 = .ok (.ireturn, 1) := by decide +kernel
theorem dX4_instruct_24 : decode cX4_instruct 24 = .ok (.aload_n 0, 1) := by decide +kernel
theorem dX4_instruct_25 : decode cX4_instruct 25 = .ok (.getfield 24, 3) := by decide +kernel
theorem dX4_instruct_28 : decode cX4_instruct 28 = .ok (.aload_n 0, 1) := by decide +kernel
theorem dX4_instruct_29 : decode cX4_instruct 29 = .ok (.getfield 56, 3) := by decide +kernel
theorem dX4_instruct_32 : decode cX4_instruct 32 = .ok (.iconst 4, 1) := by decide +kernel
theorem dX4_instruct_33 : decode cX4_instruct 33 = .ok (.invokevirtual 84, 3) := by decide +kernel
theorem dX4_instruct_36 : decode cX4_instruct 36 = .ok (.istore_n 1, 1) := by decide +kernel
theorem dX4_instruct_37 : decode cX4_instruct 37 = .ok (.iload_n 1, 1) := by decide +kernel
theorem dX4_instruct_38 : decode cX4_instruct 38 = .ok (.bipush 127, 2) := by decide +kernel
theorem dX4_instruct_40 : decode cX4_instruct 40 = .ok (.iand, 1) := by decide +kernel
theorem dX4_instruct_41 : decode cX4_instruct 41 = .ok (.lookupswitch 252 #[(3, 181), (15, 205), (19, 193), (23, 110), (35, 187), (51, 199), (55, 99), (99, 175), (103, 141), (111, 126), (115, 231)], 99) := by decide +kernel
theorem dX4_instruct_140 : decode cX4_instruct 140 = .ok (.aload_n 0, 1) := by decide +kernel
theorem dX4_instruct_141 : decode cX4_instruct 141 = .ok (.iload_n 1, 1) := by decide +kernel
theorem dX4_instruct_142 : decode cX4_instruct 142 = .ok (.iload_n 1, 1) := by decide +kernel
theorem dX4_instruct_143 : decode cX4_instruct 143 = .ok (.sipush (-4096), 3) := by decide +kernel
theorem dX4_instruct_146 : decode cX4_instruct 146 = .ok (.iand, 1) := by decide +kernel
theorem dX4_instruct_147 : decode cX4_instruct 147 = .ok (.invokevirtual 138, 3) := by decide +kernel
theorem dX4_instruct_150 : decode cX4_instruct 150 = .ok (.ireturn, 1) := by decide +kernel
theorem dX4_instruct_151 : decode cX4_instruct 151 = .ok (.aload_n 0, 1) := by decide +kernel
theorem dX4_instruct_152 : decode cX4_instruct 152 = .ok (.iload_n 1, 1) := by decide +kernel
theorem dX4_instruct_153 : decode cX4_instruct 153 = .ok (.aload_n 0, 1) := by decide +kernel
theorem dX4_instruct_154 : decode cX4_instruct 154 = .ok (.getfield 56, 3) := by decide +kernel
theorem dX4_instruct_157 : decode cX4_instruct 157 = .ok (.iload_n 1, 1) := by decide +kernel
theorem dX4_instruct_158 : decode cX4_instruct 158 = .ok (.sipush (-4096), 3) := by decide +kernel
theorem dX4_instruct_161 : decode cX4_instruct 161 = .ok (.iand, 1) := by decide +kernel
theorem dX4_instruct_162 : decode cX4_instruct 162 = .ok (.iadd, 1) := by decide +kernel
theorem dX4_instruct_163 : decode cX4_instruct 163 = .ok (.invokevirtual 138, 3) := by decide +kernel
theorem dX4_instruct_166 : decode cX4_instruct 166 = .ok (.ireturn, 1) := by decide +kernel
theorem dX4_instruct_167 : decode cX4_instruct 167 = .ok (.aload_n 0, 1) := by decide +kernel
theorem dX4_instruct_168 : decode cX4_instruct 168 = .ok (.iload_n 1, 1) := by decide +kernel
theorem dX4_instruct_169 : decode cX4_instruct 169 = .ok (.aload_n 0, 1) := by decide +kernel
theorem dX4_instruct_170 : decode cX4_instruct 170 = .ok (.getfield 56, 3) := by decide +kernel
theorem dX4_instruct_173 : decode cX4_instruct 173 = .ok (.iload_n 1, 1) := by decide +kernel
theorem dX4_instruct_174 : decode cX4_instruct 174 = .ok (.invokestatic 141, 3) := by decide +kernel
theorem dX4_instruct_177 : decode cX4_instruct 177 = .ok (.iadd, 1) := by decide +kernel
theorem dX4_instruct_178 : decode cX4_instruct 178 = .ok (.invokevirtual 144, 3) := by decide +kernel
theorem dX4_instruct_181 : decode cX4_instruct 181 = .ok (.ireturn, 1) := by decide +kernel
theorem dX4_instruct_182 : decode cX4_instruct 182 = .ok (.iload_n 1, 1) := by decide +kernel
theorem dX4_instruct_183 : decode cX4_instruct 183 = .ok (.invokestatic 147, 3) := by decide +kernel
theorem dX4_instruct_186 : decode cX4_instruct 186 = .ok (.ifCond .ne 24, 3) := by decide +kernel
theorem dX4_instruct_189 : decode cX4_instruct 189 = .ok (.aload_n 0, 1) := by decide +kernel
theorem dX4_instruct_190 : decode cX4_instruct 190 = .ok (.iload_n 1, 1) := by decide +kernel
theorem dX4_instruct_191 : decode cX4_instruct 191 = .ok (.aload_n 0, 1) := by decide +kernel
theorem dX4_instruct_192 : decode cX4_instruct 192 = .ok (.iload_n 1, 1) := by decide +kernel
theorem dX4_instruct_193 : decode cX4_instruct 193 = .ok (.invokevirtual 150, 3) := by decide +kernel
theorem dX4_instruct_196 : decode cX4_instruct 196 = .ok (.iload_n 1, 1) := by decide +kernel
theorem dX4_instruct_197 : decode cX4_instruct 197 = .ok (.invokestatic 153, 3) := by decide +kernel
theorem dX4_instruct_200 : decode cX4_instruct 200 = .ok (.iadd, 1) := by decide +kernel
theorem dX4_instruct_201 : decode cX4_instruct 201 = .ok (.bipush (-2), 2) := by decide +kernel
theorem dX4_instruct_203 : decode cX4_instruct 203 = .ok (.iand, 1) := by decide +kernel
theorem dX4_instruct_204 : decode cX4_instruct 204 = .ok (.invokevirtual 144, 3) := by decide +kernel
theorem dX4_instruct_207 : decode cX4_instruct 207 = .ok (.goto 8, 3) := by decide +kernel
theorem dX4_instruct_210 : decode cX4_instruct 210 = .ok (.aload_n 0, 1) := by decide +kernel
theorem dX4_instruct_211 : decode cX4_instruct 211 = .ok (.iload_n 1, 1) := by decide +kernel
theorem dX4_instruct_212 : decode cX4_instruct 212 = .ok (.invokevirtual 156, 3) := by decide +kernel
theorem dX4_instruct_215 : decode cX4_instruct 215 = .ok (.ireturn, 1) := by decide +kernel
theorem dX4_instruct_216 : decode cX4_instruct 216 = .ok (.aload_n 0, 1) := by decide +kernel
theorem dX4_instruct_217 : decode cX4_instruct 217 = .ok (.iload_n 1, 1) := by decide +kernel
theorem dX4_instruct_218 : decode cX4_instruct 218 = .ok (.invokevirtual 159, 3) := by decide +kernel
theorem dX4_instruct_221 : decode cX4_instruct 221 = .ok (.ireturn, 1) := by decide +kernel
theorem dX4_instruct_222 : decode cX4_instruct 222 = .ok (.aload_n 0, 1) := by decide +kernel
theorem dX4_instruct_223 : decode cX4_instruct 223 = .ok (.iload_n 1, 1) := by decide +kernel
theorem dX4_instruct_224 : decode cX4_instruct 224 = .ok (.invokevirtual 162, 3) := by decide +kernel
theorem dX4_instruct_227 : decode cX4_instruct 227 = .ok (.ireturn, 1) := by decide +kernel
theorem dX4_instruct_228 : decode cX4_instruct 228 = .ok (.aload_n 0, 1) := by decide +kernel
theorem dX4_instruct_229 : decode cX4_instruct 229 = .ok (.iload_n 1, 1) := by decide +kernel
theorem dX4_instruct_230 : decode cX4_instruct 230 = .ok (.invokevirtual 165, 3) := by decide +kernel
theorem dX4_instruct_233 : decode cX4_instruct 233 = .ok (.ireturn, 1) := by decide +kernel
theorem dX4_instruct_234 : decode cX4_instruct 234 = .ok (.aload_n 0, 1) := by decide +kernel
theorem dX4_instruct_235 : decode cX4_instruct 235 = .ok (.iload_n 1, 1) := by decide +kernel
theorem dX4_instruct_236 : decode cX4_instruct 236 = .ok (.invokevirtual 168, 3) := by decide +kernel
theorem dX4_instruct_239 : decode cX4_instruct 239 = .ok (.ireturn, 1) := by decide +kernel
theorem dX4_instruct_240 : decode cX4_instruct 240 = .ok (.aload_n 0, 1) := by decide +kernel
theorem dX4_instruct_241 : decode cX4_instruct 241 = .ok (.iload_n 1, 1) := by decide +kernel
theorem dX4_instruct_242 : decode cX4_instruct 242 = .ok (.invokevirtual 171, 3) := by decide +kernel
theorem dX4_instruct_245 : decode cX4_instruct 245 = .ok (.ireturn, 1) := by decide +kernel
theorem dX4_instruct_246 : decode cX4_instruct 246 = .ok (.iload_n 1, 1) := by decide +kernel
theorem dX4_instruct_247 : decode cX4_instruct 247 = .ok (.invokestatic 147, 3) := by decide +kernel
theorem dX4_instruct_250 : decode cX4_instruct 250 = .ok (.ifCond .ne 16, 3) := by decide +kernel
theorem dX4_instruct_253 : decode cX4_instruct 253 = .ok (.aload_n 0, 1) := by decide +kernel
theorem dX4_instruct_254 : decode cX4_instruct 254 = .ok (.aload_n 0, 1) := by decide +kernel
theorem dX4_instruct_255 : decode cX4_instruct 255 = .ok (.getfield 56, 3) := by decide +kernel
theorem dX4_instruct_258 : decode cX4_instruct 258 = .ok (.iconst 4, 1) := by decide +kernel
theorem dX4_instruct_259 : decode cX4_instruct 259 = .ok (.iadd, 1) := by decide +kernel
theorem dX4_instruct_260 : decode cX4_instruct 260 = .ok (.invokevirtual 174, 3) := by decide +kernel
theorem dX4_instruct_263 : decode cX4_instruct 263 = .ok (.goto 8, 3) := by decide +kernel
theorem dX4_instruct_266 : decode cX4_instruct 266 = .ok (.aload_n 0, 1) := by decide +kernel
theorem dX4_instruct_267 : decode cX4_instruct 267 = .ok (.iload_n 1, 1) := by decide +kernel
theorem dX4_instruct_268 : decode cX4_instruct 268 = .ok (.invokevirtual 156, 3) := by decide +kernel
theorem dX4_instruct_271 : decode cX4_instruct 271 = .ok (.ireturn, 1) := by decide +kernel
theorem dX4_instruct_272 : decode cX4_instruct 272 = .ok (.iload_n 1, 1) := by decide +kernel
theorem dX4_instruct_273 : decode cX4_instruct 273 = .ok (.invokestatic 147, 3) := by decide +kernel
theorem dX4_instruct_276 : decode cX4_instruct 276 = .ok (.ifCond .ne 11, 3) := by decide +kernel
theorem dX4_instruct_279 : decode cX4_instruct 279 = .ok (.aload_n 0, 1) := by decide +kernel
theorem dX4_instruct_280 : decode cX4_instruct 280 = .ok (.iload_n 1, 1) := by decide +kernel
theorem dX4_instruct_281 : decode cX4_instruct 281 = .ok (.invokevirtual 177, 3) := by decide +kernel
theorem dX4_instruct_284 : decode cX4_instruct 284 = .ok (.goto 8, 3) := by decide +kernel
theorem dX4_instruct_287 : decode cX4_instruct 287 = .ok (.aload_n 0, 1) := by decide +kernel
theorem dX4_instruct_288 : decode cX4_instruct 288 = .ok (.iload_n 1, 1) := by decide +kernel
theorem dX4_instruct_289 : decode cX4_instruct 289 = .ok (.invokevirtual 180, 3) := by decide +kernel
theorem dX4_instruct_292 : decode cX4_instruct 292 = .ok (.ireturn, 1) := by decide +kernel
theorem dX4_instruct_293 : decode cX4_instruct 293 = .ok (.aload_n 0, 1) := by decide +kernel
theorem dX4_instruct_294 : decode cX4_instruct 294 = .ok (.iload_n 1, 1) := by decide +kernel
theorem dX4_instruct_295 : decode cX4_instruct 295 = .ok (.invokevirtual 156, 3) := by decide +kernel
theorem dX4_instruct_298 : decode cX4_instruct 298 = .ok (.ireturn, 1) := by decide +kernel
theorem dX4_retire_0 : decode cX4_retire 0 = .ok (.aload_n 0, 1) := by decide +kernel
theorem dX4_retire_1 : decode cX4_retire 1 = .ok (.iload_n 1, 1) := by decide +kernel
theorem dX4_retire_2 : decode cX4_retire 2 = .ok (.iload_n 2, 1) := by decide +kernel
theorem dX4_retire_3 : decode cX4_retire 3 = .ok (.invokevirtual 183, 3) := by decide +kernel
theorem dX4_retire_6 : decode cX4_retire 6 = .ok (.aload_n 0, 1) := by decide +kernel
theorem dX4_retire_7 : decode cX4_retire 7 = .ok (.aload_n 0, 1) := by decide +kernel
theorem dX4_retire_8 : decode cX4_retire 8 = .ok (.getfield 56, 3) := by decide +kernel
theorem dX4_retire_11 : decode cX4_retire 11 = .ok (.iconst 4, 1) := by decide +kernel
theorem dX4_retire_12 : decode cX4_retire 12 = .ok (.iadd, 1) := by decide +kernel
theorem dX4_retire_13 : decode cX4_retire 13 = .ok (.invokevirtual 174, 3) := by decide +kernel
theorem dX4_retire_16 : decode cX4_retire 16 = .ok (.ireturn, 1) := by decide +kernel
theorem dX4_retireAt_0 : decode cX4_retireAt 0 = .ok (.aload_n 0, 1) := by decide +kernel
theorem dX4_retireAt_1 : decode cX4_retireAt 1 = .ok (.iload_n 1, 1) := by decide +kernel
theorem dX4_retireAt_2 : decode cX4_retireAt 2 = .ok (.putfield 56, 3) := by decide +kernel
theorem dX4_retireAt_5 : decode cX4_retireAt 5 = .ok (.aload_n 0, 1) := by decide +kernel
theorem dX4_retireAt_6 : decode cX4_retireAt 6 = .ok (.dup, 1) := by decide +kernel
theorem dX4_retireAt_7 : decode cX4_retireAt 7 = .ok (.getfield 64, 3) := by decide +kernel
theorem dX4_retireAt_10 : decode cX4_retireAt 10 = .ok (.lconst 1, 1) := by decide +kernel
theorem dX4_retireAt_11 : decode cX4_retireAt 11 = .ok (.ladd, 1) := by decide +kernel
theorem dX4_retireAt_12 : decode cX4_retireAt 12 = .ok (.putfield 64, 3) := by decide +kernel
theorem dX4_retireAt_15 : decode cX4_retireAt 15 = .ok (.iconst 0, 1) := by decide +kernel
theorem dX4_retireAt_16 : decode cX4_retireAt 16 = .ok (.ireturn, 1) := by decide +kernel
theorem dX4_trap_0 : decode cX4_trap 0 = .ok (.aload_n 0, 1) := by decide +kernel
theorem dX4_trap_1 : decode cX4_trap 1 = .ok (.aload_n 0, 1) := by decide +kernel
theorem dX4_trap_2 : decode cX4_trap 2 = .ok (.getfield 45, 3) := by decide +kernel
theorem dX4_trap_5 : decode cX4_trap 5 = .ok (.aload_n 0, 1) := by decide +kernel
theorem dX4_trap_6 : decode cX4_trap 6 = .ok (.getfield 56, 3) := by decide +kernel
theorem dX4_trap_9 : decode cX4_trap 9 = .ok (.iload_n 1, 1) := by decide +kernel
theorem dX4_trap_10 : decode cX4_trap 10 = .ok (.iload_n 2, 1) := by decide +kernel
theorem dX4_trap_11 : decode cX4_trap 11 = .ok (.invokevirtual 125, 3) := by decide +kernel
theorem dX4_trap_14 : decode cX4_trap 14 = .ok (.putfield 56, 3) := by decide +kernel
theorem dX4_trap_17 : decode cX4_trap 17 = .ok (.iconst 1, 1) := by decide +kernel
theorem dX4_trap_18 : decode cX4_trap 18 = .ok (.ireturn, 1) := by decide +kernel
theorem dX4_illegal_0 : decode cX4_illegal 0 = .ok (.aload_n 0, 1) := by decide +kernel
theorem dX4_illegal_1 : decode cX4_illegal 1 = .ok (.iconst 2, 1) := by decide +kernel
theorem dX4_illegal_2 : decode cX4_illegal 2 = .ok (.iload_n 1, 1) := by decide +kernel
