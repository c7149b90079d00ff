/-! words, fields, arrays -/
theorem wd_0 : (.selects RX4 yX4_stepOnce yX4_stepOnce : Cond) ∈ big := mb 0 (by decide +kernel) rfl
theorem wd_1 : (.selects RX4 yX4_instruct yX4_instruct : Cond) ∈ big := mb 1 (by decide +kernel) rfl
theorem wd_2 : (.selects RX4 yX4_trap yX4_trap : Cond) ∈ big := mb 2 (by decide +kernel) rfl
theorem wd_3 : (.selects RX4 yX4_retire yX4_retire : Cond) ∈ big := mb 3 (by decide +kernel) rfl
theorem wd_4 : (.selects RX4 yX4_setD yX4_setD : Cond) ∈ big := mb 4 (by decide +kernel) rfl
theorem wd_5 : (.selects RX4 yX4_retireAt yX4_retireAt : Cond) ∈ big := mb 5 (by decide +kernel) rfl
theorem wd_6 : (.selects RX4 yX4_jump yX4_jump : Cond) ∈ big := mb 6 (by decide +kernel) rfl
theorem wd_7 : (.selects RX4 yX4_a yX4_a : Cond) ∈ big := mb 7 (by decide +kernel) rfl
theorem wd_8 : (.selects RX4 yX4_illegal yX4_illegal : Cond) ∈ big := mb 8 (by decide +kernel) rfl
theorem wd_9 : (.selects RX4 yX4_branch yX4_branch : Cond) ∈ big := mb 9 (by decide +kernel) rfl
theorem wd_10 : (.selects RX4 yX4_b yX4_b : Cond) ∈ big := mb 10 (by decide +kernel) rfl
theorem wd_11 : (.selects RX4 yX4_read yX4_read : Cond) ∈ big := mb 11 (by decide +kernel) rfl
theorem wd_12 : (.selects RX4 yX4_store yX4_store : Cond) ∈ big := mb 12 (by decide +kernel) rfl
theorem wd_13 : (.selects RX4 yX4_reckonWithNumber yX4_reckonWithNumber : Cond) ∈ big := mb 13 (by decide +kernel) rfl
theorem wd_14 : (.selects RX4 yX4_reckonWithRegister yX4_reckonWithRegister : Cond) ∈ big := mb 14 (by decide +kernel) rfl
theorem wd_15 : (.selects RX4 yX4_system yX4_system : Cond) ∈ big := mb 15 (by decide +kernel) rfl
theorem wd_16 : (.selects RX4 yX4_control yX4_control : Cond) ∈ big := mb 16 (by decide +kernel) rfl
theorem wd_17 : (.selects RX5 yX5_isThere yX5_isThere : Cond) ∈ big := mb 17 (by decide +kernel) rfl
theorem wd_18 : (.selects RX5 yX5_put yX5_put : Cond) ∈ big := mb 18 (by decide +kernel) rfl
theorem wd_19 : (.selects RX5 yX5_isDue yX5_isDue : Cond) ∈ big := mb 19 (by decide +kernel) rfl
theorem wd_20 : (.selects RX5 yX5_once yX5_once : Cond) ∈ big := mb 20 (by decide +kernel) rfl
theorem wd_21 : (.selects RX5 yX5_trap yX5_trap : Cond) ∈ big := mb 21 (by decide +kernel) rfl
theorem wd_22 : (.selects RX5 yX5_instruction yX5_instruction : Cond) ∈ big := mb 22 (by decide +kernel) rfl
theorem wd_23 : (.selects RX5 yX5_get yX5_get : Cond) ∈ big := mb 23 (by decide +kernel) rfl
theorem wd_24 : (.selects RX5 yX5_work yX5_work : Cond) ∈ big := mb 24 (by decide +kernel) rfl
theorem wd_25 : (.selects RX5 yX5_become yX5_become : Cond) ∈ big := mb 25 (by decide +kernel) rfl
theorem wd_26 : (.selects RX5 yX5_goTo yX5_goTo : Cond) ∈ big := mb 26 (by decide +kernel) rfl
theorem wd_27 : (.selects RX5 yX5_immediate yX5_immediate : Cond) ∈ big := mb 27 (by decide +kernel) rfl
theorem wd_28 : (.selects RX5 yX5_illegal yX5_illegal : Cond) ∈ big := mb 28 (by decide +kernel) rfl
theorem wd_29 : (.selects RX5 yX5_branch yX5_branch : Cond) ∈ big := mb 29 (by decide +kernel) rfl
theorem wd_30 : (.selects RX5 yX5_read yX5_read : Cond) ∈ big := mb 30 (by decide +kernel) rfl
theorem wd_31 : (.selects RX5 yX5_store yX5_store : Cond) ∈ big := mb 31 (by decide +kernel) rfl
theorem wd_32 : (.selects RX5 yX5_reckonBy yX5_reckonBy : Cond) ∈ big := mb 32 (by decide +kernel) rfl
theorem wd_33 : (.selects RX5 yX5_reckon yX5_reckon : Cond) ∈ big := mb 33 (by decide +kernel) rfl
theorem wd_34 : (.selects RX5 yX5_reckonTwo yX5_reckonTwo : Cond) ∈ big := mb 34 (by decide +kernel) rfl
theorem wd_35 : (.selects RX5 yX5_multiplied yX5_multiplied : Cond) ∈ big := mb 35 (by decide +kernel) rfl
theorem wd_36 : (.selects RX5 yX5_system yX5_system : Cond) ∈ big := mb 36 (by decide +kernel) rfl
theorem wd_37 : (.selects RX5 yX5_control yX5_control : Cond) ∈ big := mb 37 (by decide +kernel) rfl
theorem wd_38 : (.selects RX5 yX5_setCsr yX5_setCsr : Cond) ∈ big := mb 38 (by decide +kernel) rfl
theorem wd_39 : (.initialized RL : Cond) ∈ big := mb 39 (by decide +kernel) rfl
theorem wd_40 : (.initialized RX4 : Cond) ∈ big := mb 40 (by decide +kernel) rfl
theorem wd_41 : (.initialized RX1 : Cond) ∈ big := mb 41 (by decide +kernel) rfl
theorem wd_43 : (.initialized RX3 : Cond) ∈ big := mb 43 (by decide +kernel) rfl
theorem wd_44 : (.initialized RX2 : Cond) ∈ big := mb 44 (by decide +kernel) rfl
theorem wd_45 : (.initialized RX0 : Cond) ∈ big := mb 45 (by decide +kernel) rfl
theorem wd_46 : (.initialized RX5 : Cond) ∈ big := mb 46 (by decide +kernel) rfl
theorem wd_47 : (.initialized RJ13 : Cond) ∈ big := mb 47 (by decide +kernel) rfl
theorem wd_48 : (.initialized RJ6 : Cond) ∈ big := mb 48 (by decide +kernel) rfl
theorem wd_51 : (.methodLink RL 15 yX4_init : Cond) ∈ big := mb 51 (by decide +kernel) rfl
set_option maxRecDepth 100000 in
theorem wd_53 : (.code yX4_init cX4_init 3 none : Cond) ∈ big := mb 53 rfl rfl
theorem wd_54 : (.methodLink RX4 1 objectInit : Cond) ∈ big := mb 54 (by decide +kernel) rfl
theorem wd_60 : (.methodLink RX4 12 yJ9_min_7cf53 : Cond) ∈ big := mb 60 (by decide +kernel) rfl
theorem wd_63 : (.methodLink RX4 18 yJ9_max_7cf53 : Cond) ∈ big := mb 63 (by decide +kernel) rfl
theorem wd_66 : (.methodLink RX4 21 yX1_init : Cond) ∈ big := mb 66 (by decide +kernel) rfl
set_option maxRecDepth 100000 in
theorem wd_68 : (.code yX1_init cX1_init 2 none : Cond) ∈ big := mb 68 rfl rfl
theorem wd_69 : (.methodLink RX1 1 objectInit : Cond) ∈ big := mb 69 (by decide +kernel) rfl
theorem wd_70 : (.fieldLink RX1 7 "RvCore$Memory" "words" "[I" : Cond) ∈ big := mb 70 (by decide +kernel) rfl
theorem wd_77 : (.methodLinkNest RX4 30 yX3_init "RvCore" : Cond) ∈ big := mb 77 (by decide +kernel) rfl
set_option maxRecDepth 100000 in
theorem wd_79 : (.code yX3_init cX3_init 1 none : Cond) ∈ big := mb 79 rfl rfl
theorem wd_80 : (.methodLink RX3 1 objectInit : Cond) ∈ big := mb 80 (by decide +kernel) rfl
theorem wd_81 : (.fieldLink RX3 7 "RvCore$Timer" "time" "J" : Cond) ∈ big := mb 81 (by decide +kernel) rfl
theorem wd_82 : (.fieldLinkNest RX4 105 "RvCore$Timer" "time" "J" "RvCore" : Cond) ∈ big := mb 82 (by decide +kernel) rfl
theorem wd_83 : (.fieldLink RX3 15 "RvCore$Timer" "limit" "J" : Cond) ∈ big := mb 83 (by decide +kernel) rfl
theorem wd_84 : (.fieldLinkNest RX4 108 "RvCore$Timer" "limit" "J" "RvCore" : Cond) ∈ big := mb 84 (by decide +kernel) rfl
theorem wd_92 : (.methodLink RX4 37 yX2_init : Cond) ∈ big := mb 92 (by decide +kernel) rfl
set_option maxRecDepth 100000 in
theorem wd_94 : (.code yX2_init cX2_init 2 none : Cond) ∈ big := mb 94 rfl rfl
theorem wd_95 : (.methodLink RX2 1 objectInit : Cond) ∈ big := mb 95 (by decide +kernel) rfl
theorem wd_96 : (.fieldLink RX2 7 "RvCore$Port" "bytes" "[B" : Cond) ∈ big := mb 96 (by decide +kernel) rfl
theorem wd_97 : (.fieldLink RX2 13 "RvCore$Port" "sent" "I" : Cond) ∈ big := mb 97 (by decide +kernel) rfl
theorem wd_98 : (.fieldLinkNest RX4 111 "RvCore$Port" "sent" "I" "RvCore" : Cond) ∈ big := mb 98 (by decide +kernel) rfl
theorem wd_107 : (.methodLinkNest RX4 44 yX0_init "RvCore" : Cond) ∈ big := mb 107 (by decide +kernel) rfl
set_option maxRecDepth 100000 in
theorem wd_109 : (.code yX0_init cX0_init 1 none : Cond) ∈ big := mb 109 rfl rfl
theorem wd_110 : (.methodLink RX0 1 objectInit : Cond) ∈ big := mb 110 (by decide +kernel) rfl
theorem wd_111 : (.fieldLink RX0 7 "RvCore$Controls" "interruptsOn" "Z" : Cond) ∈ big := mb 111 (by decide +kernel) rfl
theorem wd_112 : (.fieldLinkNest RX4 121 "RvCore$Controls" "interruptsOn" "Z" "RvCore" : Cond) ∈ big := mb 112 (by decide +kernel) rfl
theorem wd_113 : (.fieldLink RX0 13 "RvCore$Controls" "interruptsWereOn" "Z" : Cond) ∈ big := mb 113 (by decide +kernel) rfl
theorem wd_114 : (.fieldLink RX0 16 "RvCore$Controls" "enabled" "I" : Cond) ∈ big := mb 114 (by decide +kernel) rfl
theorem wd_115 : (.fieldLink RX0 20 "RvCore$Controls" "vector" "I" : Cond) ∈ big := mb 115 (by decide +kernel) rfl
theorem wd_116 : (.fieldLink RX0 23 "RvCore$Controls" "scratch" "I" : Cond) ∈ big := mb 116 (by decide +kernel) rfl
theorem wd_117 : (.fieldLink RX0 26 "RvCore$Controls" "wayBack" "I" : Cond) ∈ big := mb 117 (by decide +kernel) rfl
theorem wd_118 : (.fieldLink RX0 29 "RvCore$Controls" "cause" "I" : Cond) ∈ big := mb 118 (by decide +kernel) rfl
theorem wd_119 : (.fieldLink RX0 32 "RvCore$Controls" "value" "I" : Cond) ∈ big := mb 119 (by decide +kernel) rfl
theorem wd_137 : (.methodLink RX4 53 yX4_reset : Cond) ∈ big := mb 137 (by decide +kernel) rfl
theorem wd_138 : (.instanceMethod yX4_reset : Cond) ∈ big := mb 138 (by decide +kernel) rfl
theorem wd_139 : (.selects RX4 yX4_reset yX4_reset : Cond) ∈ big := mb 139 (by decide +kernel) rfl
set_option maxRecDepth 100000 in
theorem wd_140 : (.code yX4_reset cX4_reset 2 none : Cond) ∈ big := mb 140 rfl rfl
theorem wd_141 : (.methodLink RX4 71 yX3_restart : Cond) ∈ big := mb 141 (by decide +kernel) rfl
theorem wd_142 : (.instanceMethod yX3_restart : Cond) ∈ big := mb 142 (by decide +kernel) rfl
theorem wd_143 : (.selects RX3 yX3_restart yX3_restart : Cond) ∈ big := mb 143 (by decide +kernel) rfl
set_option maxRecDepth 100000 in
theorem wd_144 : (.code yX3_restart cX3_restart 1 none : Cond) ∈ big := mb 144 rfl rfl
theorem wd_145 : (.constantLong RX3 13 (-1) : Cond) ∈ big := mb 145 (by decide +kernel) rfl
theorem wd_146 : (.methodLink RX4 74 yX2_restart : Cond) ∈ big := mb 146 (by decide +kernel) rfl
theorem wd_147 : (.instanceMethod yX2_restart : Cond) ∈ big := mb 147 (by decide +kernel) rfl
theorem wd_148 : (.selects RX2 yX2_restart yX2_restart : Cond) ∈ big := mb 148 (by decide +kernel) rfl
set_option maxRecDepth 100000 in
theorem wd_149 : (.code yX2_restart cX2_restart 1 none : Cond) ∈ big := mb 149 rfl rfl
theorem wd_150 : (.methodLink RX4 75 yX0_restart : Cond) ∈ big := mb 150 (by decide +kernel) rfl
theorem wd_151 : (.instanceMethod yX0_restart : Cond) ∈ big := mb 151 (by decide +kernel) rfl
theorem wd_152 : (.selects RX0 yX0_restart yX0_restart : Cond) ∈ big := mb 152 (by decide +kernel) rfl
set_option maxRecDepth 100000 in
theorem wd_153 : (.code yX0_restart cX0_restart 1 none : Cond) ∈ big := mb 153 rfl rfl
theorem wd_154 : (.fieldLink RX4 24 "RvCore" "memory" "LRvCore$Memory;" : Cond) ∈ big := mb 154 (by decide +kernel) rfl
theorem wd_155 : (.fieldLink RX4 31 "RvCore" "timer" "LRvCore$Timer;" : Cond) ∈ big := mb 155 (by decide +kernel) rfl
theorem wd_156 : (.fieldLink RX4 38 "RvCore" "port" "LRvCore$Port;" : Cond) ∈ big := mb 156 (by decide +kernel) rfl
theorem wd_157 : (.fieldLink RX4 45 "RvCore" "controls" "LRvCore$Controls;" : Cond) ∈ big := mb 157 (by decide +kernel) rfl
theorem wd_158 : (.fieldLink RX4 49 "RvCore" "x" "[I" : Cond) ∈ big := mb 158 (by decide +kernel) rfl
theorem wd_159 : (.fieldLink RX4 56 "RvCore" "place" "I" : Cond) ∈ big := mb 159 (by decide +kernel) rfl
theorem wd_160 : (.fieldLink RX4 60 "RvCore" "waiting" "Z" : Cond) ∈ big := mb 160 (by decide +kernel) rfl
theorem wd_161 : (.fieldLink RX4 64 "RvCore" "retired" "J" : Cond) ∈ big := mb 161 (by decide +kernel) rfl
theorem wd_162 : (.fieldLink RX4 68 "RvCore" "latest" "I" : Cond) ∈ big := mb 162 (by decide +kernel) rfl
theorem wd_182 : (.methodLink RL 21 yX4_reset : Cond) ∈ big := mb 182 (by decide +kernel) rfl
theorem wd_183 : (.methodLink RL 25 yX4_poke : Cond) ∈ big := mb 183 (by decide +kernel) rfl
theorem wd_184 : (.instanceMethod yX4_poke : Cond) ∈ big := mb 184 (by decide +kernel) rfl
theorem wd_185 : (.selects RX4 yX4_poke yX4_poke : Cond) ∈ big := mb 185 (by decide +kernel) rfl
set_option maxRecDepth 100000 in
theorem wd_186 : (.code yX4_poke cX4_poke 3 (some .boolean) : Cond) ∈ big := mb 186 rfl rfl
theorem wd_187 : (.methodLink RX4 76 yX1_holds : Cond) ∈ big := mb 187 (by decide +kernel) rfl
theorem wd_188 : (.instanceMethod yX1_holds : Cond) ∈ big := mb 188 (by decide +kernel) rfl
theorem wd_189 : (.selects RX1 yX1_holds yX1_holds : Cond) ∈ big := mb 189 (by decide +kernel) rfl
set_option maxRecDepth 100000 in
theorem wd_190 : (.code yX1_holds cX1_holds 2 (some .boolean) : Cond) ∈ big := mb 190 rfl rfl
theorem wd_191 : (.methodLink RX4 80 yX1_put : Cond) ∈ big := mb 191 (by decide +kernel) rfl
theorem wd_192 : (.instanceMethod yX1_put : Cond) ∈ big := mb 192 (by decide +kernel) rfl
theorem wd_193 : (.selects RX1 yX1_put yX1_put : Cond) ∈ big := mb 193 (by decide +kernel) rfl
set_option maxRecDepth 100000 in
theorem wd_194 : (.code yX1_put cX1_put 6 none : Cond) ∈ big := mb 194 rfl rfl
theorem wd_195 : (.methodLink RX1 17 yX1_mask : Cond) ∈ big := mb 195 (by decide +kernel) rfl
theorem wd_196 : (.static yX1_mask : Cond) ∈ big := mb 196 (by decide +kernel) rfl
set_option maxRecDepth 100000 in
theorem wd_197 : (.code yX1_mask cX1_mask 1 (some .int) : Cond) ∈ big := mb 197 rfl rfl
theorem wd_198 : (.methodLink RX1 13 yX1_shift : Cond) ∈ big := mb 198 (by decide +kernel) rfl
theorem wd_199 : (.static yX1_shift : Cond) ∈ big := mb 199 (by decide +kernel) rfl
set_option maxRecDepth 100000 in
theorem wd_200 : (.code yX1_shift cX1_shift 1 (some .int) : Cond) ∈ big := mb 200 rfl rfl
theorem wd_201 : (.methodLink RL 30 yX4_load : Cond) ∈ big := mb 201 (by decide +kernel) rfl
theorem wd_202 : (.instanceMethod yX4_load : Cond) ∈ big := mb 202 (by decide +kernel) rfl
theorem wd_203 : (.selects RX4 yX4_load yX4_load : Cond) ∈ big := mb 203 (by decide +kernel) rfl
set_option maxRecDepth 100000 in
theorem wd_204 : (.code yX4_load cX4_load 4 (some .boolean) : Cond) ∈ big := mb 204 rfl rfl
theorem wd_205 : (.methodLink RL 34 yX4_peek : Cond) ∈ big := mb 205 (by decide +kernel) rfl
theorem wd_206 : (.instanceMethod yX4_peek : Cond) ∈ big := mb 206 (by decide +kernel) rfl
theorem wd_207 : (.selects RX4 yX4_peek yX4_peek : Cond) ∈ big := mb 207 (by decide +kernel) rfl
set_option maxRecDepth 100000 in
theorem wd_208 : (.code yX4_peek cX4_peek 2 (some .int) : Cond) ∈ big := mb 208 rfl rfl
theorem wd_209 : (.methodLink RX4 84 yX1_get : Cond) ∈ big := mb 209 (by decide +kernel) rfl
theorem wd_210 : (.instanceMethod yX1_get : Cond) ∈ big := mb 210 (by decide +kernel) rfl
theorem wd_211 : (.selects RX1 yX1_get yX1_get : Cond) ∈ big := mb 211 (by decide +kernel) rfl
set_option maxRecDepth 100000 in
theorem wd_212 : (.code yX1_get cX1_get 3 (some .int) : Cond) ∈ big := mb 212 rfl rfl
theorem wd_213 : (.methodLink RL 39 yX4_step : Cond) ∈ big := mb 213 (by decide +kernel) rfl
theorem wd_214 : (.instanceMethod yX4_step : Cond) ∈ big := mb 214 (by decide +kernel) rfl
theorem wd_215 : (.selects RX4 yX4_step yX4_step : Cond) ∈ big := mb 215 (by decide +kernel) rfl
set_option maxRecDepth 100000 in
theorem wd_216 : (.code yX4_step cX4_step 1 (some .int) : Cond) ∈ big := mb 216 rfl rfl
theorem wd_217 : (.methodLink RX4 87 yX4_stepOnce : Cond) ∈ big := mb 217 (by decide +kernel) rfl
theorem wd_219 : (.instanceMethod yX4_stepOnce : Cond) ∈ big := mb 219 (by decide +kernel) rfl
set_option maxRecDepth 100000 in
theorem wd_220 : (.code yX4_stepOnce cX4_stepOnce 4 (some .int) : Cond) ∈ big := mb 220 rfl rfl
theorem wd_221 : (.methodLink RX4 118 yX0_timerEnabled : Cond) ∈ big := mb 221 (by decide +kernel) rfl
theorem wd_222 : (.instanceMethod yX0_timerEnabled : Cond) ∈ big := mb 222 (by decide +kernel) rfl
theorem wd_223 : (.selects RX0 yX0_timerEnabled yX0_timerEnabled : Cond) ∈ big := mb 223 (by decide +kernel) rfl
set_option maxRecDepth 100000 in
theorem wd_224 : (.code yX0_timerEnabled cX0_timerEnabled 1 (some .boolean) : Cond) ∈ big := mb 224 rfl rfl
theorem wd_225 : (.methodLink RX4 98 yX3_isDue : Cond) ∈ big := mb 225 (by decide +kernel) rfl
theorem wd_226 : (.instanceMethod yX3_isDue : Cond) ∈ big := mb 226 (by decide +kernel) rfl
theorem wd_227 : (.selects RX3 yX3_isDue yX3_isDue : Cond) ∈ big := mb 227 (by decide +kernel) rfl
set_option maxRecDepth 100000 in
theorem wd_228 : (.code yX3_isDue cX3_isDue 1 (some .boolean) : Cond) ∈ big := mb 228 rfl rfl
theorem wd_229 : (.methodLink RX3 18 yJ13_compareUnsigned_74951 : Cond) ∈ big := mb 229 (by decide +kernel) rfl
theorem wd_230 : (.static yJ13_compareUnsigned_74951 : Cond) ∈ big := mb 230 (by decide +kernel) rfl
set_option maxRecDepth 100000 in
theorem wd_231 : (.code yJ13_compareUnsigned_74951 cJ13_compareUnsigned_74951 4 (some .int) : Cond) ∈ big := mb 231 rfl rfl
theorem wd_232 : (.constantLong RJ13 168 (-9223372036854775808) : Cond) ∈ big := mb 232 (by decide +kernel) rfl
theorem wd_233 : (.methodLink RJ13 302 yJ13_compare_74951 : Cond) ∈ big := mb 233 (by decide +kernel) rfl
theorem wd_234 : (.static yJ13_compare_74951 : Cond) ∈ big := mb 234 (by decide +kernel) rfl
set_option maxRecDepth 100000 in
theorem wd_235 : (.code yJ13_compare_74951 cJ13_compare_74951 4 (some .int) : Cond) ∈ big := mb 235 rfl rfl
theorem wd_236 : (.constant RX4 124 (-2147483641) : Cond) ∈ big := mb 236 (by decide +kernel) rfl
theorem wd_237 : (.methodLink RX4 125 yX0_enter : Cond) ∈ big := mb 237 (by decide +kernel) rfl
theorem wd_238 : (.instanceMethod yX0_enter : Cond) ∈ big := mb 238 (by decide +kernel) rfl
theorem wd_239 : (.selects RX0 yX0_enter yX0_enter : Cond) ∈ big := mb 239 (by decide +kernel) rfl
set_option maxRecDepth 100000 in
theorem wd_240 : (.code yX0_enter cX0_enter 4 (some .int) : Cond) ∈ big := mb 240 rfl rfl
theorem wd_241 : (.methodLink RX4 129 yX0_hasOwnEntries : Cond) ∈ big := mb 241 (by decide +kernel) rfl
theorem wd_242 : (.instanceMethod yX0_hasOwnEntries : Cond) ∈ big := mb 242 (by decide +kernel) rfl
theorem wd_243 : (.selects RX0 yX0_hasOwnEntries yX0_hasOwnEntries : Cond) ∈ big := mb 243 (by decide +kernel) rfl
set_option maxRecDepth 100000 in
theorem wd_244 : (.code yX0_hasOwnEntries cX0_hasOwnEntries 1 (some .boolean) : Cond) ∈ big := mb 244 rfl rfl
theorem wd_245 : (.methodLink RX4 132 yX4_instruct : Cond) ∈ big := mb 245 (by decide +kernel) rfl
theorem wd_247 : (.instanceMethod yX4_instruct : Cond) ∈ big := mb 247 (by decide +kernel) rfl
set_option maxRecDepth 100000 in
theorem wd_248 : (.code yX4_instruct cX4_instruct 2 (some .int) : Cond) ∈ big := mb 248 rfl rfl
theorem wd_249 : (.methodLink RX4 135 yX4_trap : Cond) ∈ big := mb 249 (by decide +kernel) rfl
theorem wd_251 : (.instanceMethod yX4_trap : Cond) ∈ big := mb 251 (by decide +kernel) rfl
set_option maxRecDepth 100000 in
theorem wd_252 : (.code yX4_trap cX4_trap 3 (some .int) : Cond) ∈ big := mb 252 rfl rfl
theorem wd_253 : (.methodLink RX4 138 yX4_retire : Cond) ∈ big := mb 253 (by decide +kernel) rfl
theorem wd_255 : (.instanceMethod yX4_retire : Cond) ∈ big := mb 255 (by decide +kernel) rfl
set_option maxRecDepth 100000 in
theorem wd_256 : (.code yX4_retire cX4_retire 3 (some .int) : Cond) ∈ big := mb 256 rfl rfl
theorem wd_257 : (.methodLink RX4 183 yX4_setD : Cond) ∈ big := mb 257 (by decide +kernel) rfl
theorem wd_259 : (.instanceMethod yX4_setD : Cond) ∈ big := mb 259 (by decide +kernel) rfl
set_option maxRecDepth 100000 in
theorem wd_260 : (.code yX4_setD cX4_setD 4 none : Cond) ∈ big := mb 260 rfl rfl
theorem wd_261 : (.methodLink RX4 174 yX4_retireAt : Cond) ∈ big := mb 261 (by decide +kernel) rfl
theorem wd_263 : (.instanceMethod yX4_retireAt : Cond) ∈ big := mb 263 (by decide +kernel) rfl
set_option maxRecDepth 100000 in
theorem wd_264 : (.code yX4_retireAt cX4_retireAt 2 (some .int) : Cond) ∈ big := mb 264 rfl rfl
theorem wd_265 : (.methodLink RX4 141 yX4_offsetJ : Cond) ∈ big := mb 265 (by decide +kernel) rfl
theorem wd_266 : (.static yX4_offsetJ : Cond) ∈ big := mb 266 (by decide +kernel) rfl
set_option maxRecDepth 100000 in
theorem wd_267 : (.code yX4_offsetJ cX4_offsetJ 1 (some .int) : Cond) ∈ big := mb 267 rfl rfl
theorem wd_268 : (.constant RX4 187 (1044480) : Cond) ∈ big := mb 268 (by decide +kernel) rfl
theorem wd_269 : (.methodLink RX4 144 yX4_jump : Cond) ∈ big := mb 269 (by decide +kernel) rfl
theorem wd_271 : (.instanceMethod yX4_jump : Cond) ∈ big := mb 271 (by decide +kernel) rfl
set_option maxRecDepth 100000 in
theorem wd_272 : (.code yX4_jump cX4_jump 3 (some .int) : Cond) ∈ big := mb 272 rfl rfl
theorem wd_273 : (.methodLink RX4 147 yX4_f : Cond) ∈ big := mb 273 (by decide +kernel) rfl
theorem wd_274 : (.static yX4_f : Cond) ∈ big := mb 274 (by decide +kernel) rfl
set_option maxRecDepth 100000 in
theorem wd_275 : (.code yX4_f cX4_f 1 (some .int) : Cond) ∈ big := mb 275 rfl rfl
theorem wd_276 : (.methodLink RX4 150 yX4_a : Cond) ∈ big := mb 276 (by decide +kernel) rfl
theorem wd_278 : (.instanceMethod yX4_a : Cond) ∈ big := mb 278 (by decide +kernel) rfl
set_option maxRecDepth 100000 in
theorem wd_279 : (.code yX4_a cX4_a 2 (some .int) : Cond) ∈ big := mb 279 rfl rfl
theorem wd_280 : (.methodLink RX4 188 yX4_s : Cond) ∈ big := mb 280 (by decide +kernel) rfl
theorem wd_281 : (.static yX4_s : Cond) ∈ big := mb 281 (by decide +kernel) rfl
set_option maxRecDepth 100000 in
theorem wd_282 : (.code yX4_s cX4_s 1 (some .int) : Cond) ∈ big := mb 282 rfl rfl
theorem wd_283 : (.methodLink RX4 153 yX4_offsetI : Cond) ∈ big := mb 283 (by decide +kernel) rfl
theorem wd_284 : (.static yX4_offsetI : Cond) ∈ big := mb 284 (by decide +kernel) rfl
set_option maxRecDepth 100000 in
theorem wd_285 : (.code yX4_offsetI cX4_offsetI 1 (some .int) : Cond) ∈ big := mb 285 rfl rfl
theorem wd_286 : (.methodLink RX4 156 yX4_illegal : Cond) ∈ big := mb 286 (by decide +kernel) rfl
theorem wd_288 : (.instanceMethod yX4_illegal : Cond) ∈ big := mb 288 (by decide +kernel) rfl
set_option maxRecDepth 100000 in
theorem wd_289 : (.code yX4_illegal cX4_illegal 2 (some .int) : Cond) ∈ big := mb 289 rfl rfl
theorem wd_290 : (.methodLink RX4 159 yX4_branch : Cond) ∈ big := mb 290 (by decide +kernel) rfl
theorem wd_292 : (.instanceMethod yX4_branch : Cond) ∈ big := mb 292 (by decide +kernel) rfl
set_option maxRecDepth 100000 in
theorem wd_293 : (.code yX4_branch cX4_branch 5 (some .int) : Cond) ∈ big := mb 293 rfl rfl
theorem wd_294 : (.methodLink RX4 191 yX4_b : Cond) ∈ big := mb 294 (by decide +kernel) rfl
theorem wd_296 : (.instanceMethod yX4_b : Cond) ∈ big := mb 296 (by decide +kernel) rfl
set_option maxRecDepth 100000 in
theorem wd_297 : (.code yX4_b cX4_b 2 (some .int) : Cond) ∈ big := mb 297 rfl rfl
theorem wd_298 : (.methodLink RX4 194 yX4_compares : Cond) ∈ big := mb 298 (by decide +kernel) rfl
theorem wd_299 : (.static yX4_compares : Cond) ∈ big := mb 299 (by decide +kernel) rfl
set_option maxRecDepth 100000 in
theorem wd_300 : (.code yX4_compares cX4_compares 3 (some .boolean) : Cond) ∈ big := mb 300 rfl rfl
theorem wd_301 : (.methodLink RX4 201 yX4_belowUnsigned : Cond) ∈ big := mb 301 (by decide +kernel) rfl
theorem wd_302 : (.static yX4_belowUnsigned : Cond) ∈ big := mb 302 (by decide +kernel) rfl
set_option maxRecDepth 100000 in
theorem wd_303 : (.code yX4_belowUnsigned cX4_belowUnsigned 2 (some .boolean) : Cond) ∈ big := mb 303 rfl rfl
theorem wd_304 : (.methodLink RX4 205 yJ6_compareUnsigned_7cf53 : Cond) ∈ big := mb 304 (by decide +kernel) rfl
theorem wd_305 : (.static yJ6_compareUnsigned_7cf53 : Cond) ∈ big := mb 305 (by decide +kernel) rfl
set_option maxRecDepth 100000 in
theorem wd_306 : (.code yJ6_compareUnsigned_7cf53 cJ6_compareUnsigned_7cf53 2 (some .int) : Cond) ∈ big := mb 306 rfl rfl
theorem wd_307 : (.constant RJ6 127 (-2147483648) : Cond) ∈ big := mb 307 (by decide +kernel) rfl
theorem wd_308 : (.methodLink RJ6 259 yJ6_compare_7cf53 : Cond) ∈ big := mb 308 (by decide +kernel) rfl
theorem wd_309 : (.static yJ6_compare_7cf53 : Cond) ∈ big := mb 309 (by decide +kernel) rfl
set_option maxRecDepth 100000 in
theorem wd_310 : (.code yJ6_compare_7cf53 cJ6_compare_7cf53 2 (some .int) : Cond) ∈ big := mb 310 rfl rfl
theorem wd_311 : (.methodLink RX4 198 yX4_offsetB : Cond) ∈ big := mb 311 (by decide +kernel) rfl
theorem wd_312 : (.static yX4_offsetB : Cond) ∈ big := mb 312 (by decide +kernel) rfl
set_option maxRecDepth 100000 in
theorem wd_313 : (.code yX4_offsetB cX4_offsetB 1 (some .int) : Cond) ∈ big := mb 313 rfl rfl
theorem wd_314 : (.methodLink RX4 162 yX4_read : Cond) ∈ big := mb 314 (by decide +kernel) rfl
theorem wd_316 : (.instanceMethod yX4_read : Cond) ∈ big := mb 316 (by decide +kernel) rfl
set_option maxRecDepth 100000 in
theorem wd_317 : (.code yX4_read cX4_read 5 (some .int) : Cond) ∈ big := mb 317 rfl rfl
theorem wd_318 : (.methodLink RX4 210 yX4_extended : Cond) ∈ big := mb 318 (by decide +kernel) rfl
theorem wd_319 : (.static yX4_extended : Cond) ∈ big := mb 319 (by decide +kernel) rfl
set_option maxRecDepth 100000 in
theorem wd_320 : (.code yX4_extended cX4_extended 2 (some .int) : Cond) ∈ big := mb 320 rfl rfl
theorem wd_321 : (.methodLink RX4 213 yX3_holds : Cond) ∈ big := mb 321 (by decide +kernel) rfl
theorem wd_322 : (.static yX3_holds : Cond) ∈ big := mb 322 (by decide +kernel) rfl
set_option maxRecDepth 100000 in
theorem wd_323 : (.code yX3_holds cX3_holds 1 (some .boolean) : Cond) ∈ big := mb 323 rfl rfl
theorem wd_324 : (.constant RX3 24 (33603576) : Cond) ∈ big := mb 324 (by decide +kernel) rfl
theorem wd_325 : (.constant RX3 25 (33603580) : Cond) ∈ big := mb 325 (by decide +kernel) rfl
theorem wd_326 : (.constant RX3 26 (33570816) : Cond) ∈ big := mb 326 (by decide +kernel) rfl
theorem wd_327 : (.constant RX3 27 (33570820) : Cond) ∈ big := mb 327 (by decide +kernel) rfl
theorem wd_328 : (.methodLink RX4 214 yX3_half : Cond) ∈ big := mb 328 (by decide +kernel) rfl
theorem wd_329 : (.instanceMethod yX3_half : Cond) ∈ big := mb 329 (by decide +kernel) rfl
theorem wd_330 : (.selects RX3 yX3_half yX3_half : Cond) ∈ big := mb 330 (by decide +kernel) rfl
set_option maxRecDepth 100000 in
theorem wd_331 : (.code yX3_half cX3_half 4 (some .int) : Cond) ∈ big := mb 331 rfl rfl
theorem wd_332 : (.methodLink RX3 28 yX3_isTime : Cond) ∈ big := mb 332 (by decide +kernel) rfl
theorem wd_333 : (.static yX3_isTime : Cond) ∈ big := mb 333 (by decide +kernel) rfl
set_option maxRecDepth 100000 in
theorem wd_334 : (.code yX3_isTime cX3_isTime 1 (some .boolean) : Cond) ∈ big := mb 334 rfl rfl
theorem wd_335 : (.methodLink RX3 32 yX3_isUpper : Cond) ∈ big := mb 335 (by decide +kernel) rfl
theorem wd_336 : (.static yX3_isUpper : Cond) ∈ big := mb 336 (by decide +kernel) rfl
set_option maxRecDepth 100000 in
theorem wd_337 : (.code yX3_isUpper cX3_isUpper 1 (some .boolean) : Cond) ∈ big := mb 337 rfl rfl
theorem wd_338 : (.constant RX4 217 (268435456) : Cond) ∈ big := mb 338 (by decide +kernel) rfl
theorem wd_339 : (.methodLink RX4 218 yX2_room : Cond) ∈ big := mb 339 (by decide +kernel) rfl
theorem wd_340 : (.instanceMethod yX2_room : Cond) ∈ big := mb 340 (by decide +kernel) rfl
theorem wd_341 : (.selects RX2 yX2_room yX2_room : Cond) ∈ big := mb 341 (by decide +kernel) rfl
set_option maxRecDepth 100000 in
theorem wd_342 : (.code yX2_room cX2_room 1 (some .int) : Cond) ∈ big := mb 342 rfl rfl
theorem wd_343 : (.methodLink RX4 165 yX4_store : Cond) ∈ big := mb 343 (by decide +kernel) rfl
theorem wd_345 : (.instanceMethod yX4_store : Cond) ∈ big := mb 345 (by decide +kernel) rfl
set_option maxRecDepth 100000 in
theorem wd_346 : (.code yX4_store cX4_store 5 (some .int) : Cond) ∈ big := mb 346 rfl rfl
theorem wd_347 : (.methodLink RX4 221 yX4_offsetS : Cond) ∈ big := mb 347 (by decide +kernel) rfl
theorem wd_348 : (.static yX4_offsetS : Cond) ∈ big := mb 348 (by decide +kernel) rfl
set_option maxRecDepth 100000 in
theorem wd_349 : (.code yX4_offsetS cX4_offsetS 1 (some .int) : Cond) ∈ big := mb 349 rfl rfl
theorem wd_350 : (.methodLink RX4 224 yX3_setHalf : Cond) ∈ big := mb 350 (by decide +kernel) rfl
theorem wd_351 : (.instanceMethod yX3_setHalf : Cond) ∈ big := mb 351 (by decide +kernel) rfl
theorem wd_352 : (.selects RX3 yX3_setHalf yX3_setHalf : Cond) ∈ big := mb 352 (by decide +kernel) rfl
set_option maxRecDepth 100000 in
theorem wd_353 : (.code yX3_setHalf cX3_setHalf 3 none : Cond) ∈ big := mb 353 rfl rfl
theorem wd_354 : (.methodLink RX3 35 yX3_withHalf : Cond) ∈ big := mb 354 (by decide +kernel) rfl
theorem wd_355 : (.static yX3_withHalf : Cond) ∈ big := mb 355 (by decide +kernel) rfl
set_option maxRecDepth 100000 in
theorem wd_356 : (.code yX3_withHalf cX3_withHalf 4 (some .long) : Cond) ∈ big := mb 356 rfl rfl
theorem wd_357 : (.constantLong RX3 39 (4294967295) : Cond) ∈ big := mb 357 (by decide +kernel) rfl
theorem wd_358 : (.constantLong RX3 41 (-4294967296) : Cond) ∈ big := mb 358 (by decide +kernel) rfl
theorem wd_359 : (.methodLinkNest RX3 43 yX4_unsigned "RvCore" : Cond) ∈ big := mb 359 (by decide +kernel) rfl
theorem wd_360 : (.static yX4_unsigned : Cond) ∈ big := mb 360 (by decide +kernel) rfl
set_option maxRecDepth 100000 in
theorem wd_361 : (.code yX4_unsigned cX4_unsigned 1 (some .long) : Cond) ∈ big := mb 361 rfl rfl
theorem wd_362 : (.constantLong RX4 243 (4294967295) : Cond) ∈ big := mb 362 (by decide +kernel) rfl
theorem wd_363 : (.methodLink RX4 227 yX2_send : Cond) ∈ big := mb 363 (by decide +kernel) rfl
theorem wd_364 : (.instanceMethod yX2_send : Cond) ∈ big := mb 364 (by decide +kernel) rfl
theorem wd_365 : (.selects RX2 yX2_send yX2_send : Cond) ∈ big := mb 365 (by decide +kernel) rfl
set_option maxRecDepth 100000 in
theorem wd_366 : (.code yX2_send cX2_send 2 (some .boolean) : Cond) ∈ big := mb 366 rfl rfl
theorem wd_367 : (.methodLink RX4 168 yX4_reckonWithNumber : Cond) ∈ big := mb 367 (by decide +kernel) rfl
theorem wd_369 : (.instanceMethod yX4_reckonWithNumber : Cond) ∈ big := mb 369 (by decide +kernel) rfl
set_option maxRecDepth 100000 in
theorem wd_370 : (.code yX4_reckonWithNumber cX4_reckonWithNumber 5 (some .int) : Cond) ∈ big := mb 370 rfl rfl
theorem wd_371 : (.methodLink RX4 230 yX4_g : Cond) ∈ big := mb 371 (by decide +kernel) rfl
theorem wd_372 : (.static yX4_g : Cond) ∈ big := mb 372 (by decide +kernel) rfl
set_option maxRecDepth 100000 in
theorem wd_373 : (.code yX4_g cX4_g 1 (some .int) : Cond) ∈ big := mb 373 rfl rfl
theorem wd_374 : (.methodLink RX4 233 yX4_reckoned : Cond) ∈ big := mb 374 (by decide +kernel) rfl
theorem wd_375 : (.static yX4_reckoned : Cond) ∈ big := mb 375 (by decide +kernel) rfl
set_option maxRecDepth 100000 in
theorem wd_376 : (.code yX4_reckoned cX4_reckoned 4 (some .int) : Cond) ∈ big := mb 376 rfl rfl
theorem wd_377 : (.methodLink RX4 171 yX4_reckonWithRegister : Cond) ∈ big := mb 377 (by decide +kernel) rfl
theorem wd_379 : (.instanceMethod yX4_reckonWithRegister : Cond) ∈ big := mb 379 (by decide +kernel) rfl
set_option maxRecDepth 100000 in
theorem wd_380 : (.code yX4_reckonWithRegister cX4_reckonWithRegister 6 (some .int) : Cond) ∈ big := mb 380 rfl rfl
theorem wd_381 : (.methodLink RX4 237 yX4_product : Cond) ∈ big := mb 381 (by decide +kernel) rfl
theorem wd_382 : (.static yX4_product : Cond) ∈ big := mb 382 (by decide +kernel) rfl
set_option maxRecDepth 100000 in
theorem wd_383 : (.code yX4_product cX4_product 3 (some .int) : Cond) ∈ big := mb 383 rfl rfl
theorem wd_384 : (.methodLink RX4 245 yX4_unsigned : Cond) ∈ big := mb 384 (by decide +kernel) rfl
theorem wd_385 : (.methodLink RX4 240 yX4_divided : Cond) ∈ big := mb 385 (by decide +kernel) rfl
theorem wd_386 : (.static yX4_divided : Cond) ∈ big := mb 386 (by decide +kernel) rfl
set_option maxRecDepth 100000 in
theorem wd_387 : (.code yX4_divided cX4_divided 9 (some .int) : Cond) ∈ big := mb 387 rfl rfl
theorem wd_388 : (.methodLink RX4 177 yX4_system : Cond) ∈ big := mb 388 (by decide +kernel) rfl
theorem wd_390 : (.instanceMethod yX4_system : Cond) ∈ big := mb 390 (by decide +kernel) rfl
set_option maxRecDepth 100000 in
theorem wd_391 : (.code yX4_system cX4_system 2 (some .int) : Cond) ∈ big := mb 391 rfl rfl
theorem wd_392 : (.methodLink RX4 249 yX0_leave : Cond) ∈ big := mb 392 (by decide +kernel) rfl
theorem wd_393 : (.instanceMethod yX0_leave : Cond) ∈ big := mb 393 (by decide +kernel) rfl
theorem wd_394 : (.selects RX0 yX0_leave yX0_leave : Cond) ∈ big := mb 394 (by decide +kernel) rfl
set_option maxRecDepth 100000 in
theorem wd_395 : (.code yX0_leave cX0_leave 1 (some .int) : Cond) ∈ big := mb 395 rfl rfl
theorem wd_396 : (.methodLink RX4 180 yX4_control : Cond) ∈ big := mb 396 (by decide +kernel) rfl
theorem wd_398 : (.instanceMethod yX4_control : Cond) ∈ big := mb 398 (by decide +kernel) rfl
set_option maxRecDepth 100000 in
theorem wd_399 : (.code yX4_control cX4_control 8 (some .int) : Cond) ∈ big := mb 399 rfl rfl
theorem wd_400 : (.methodLink RX4 95 yX0_lists : Cond) ∈ big := mb 400 (by decide +kernel) rfl
theorem wd_401 : (.static yX0_lists : Cond) ∈ big := mb 401 (by decide +kernel) rfl
set_option maxRecDepth 100000 in
theorem wd_402 : (.code yX0_lists cX0_lists 1 (some .boolean) : Cond) ∈ big := mb 402 rfl rfl
theorem wd_403 : (.methodLink RX4 102 yX0_get : Cond) ∈ big := mb 403 (by decide +kernel) rfl
theorem wd_404 : (.instanceMethod yX0_get : Cond) ∈ big := mb 404 (by decide +kernel) rfl
theorem wd_405 : (.selects RX0 yX0_get yX0_get : Cond) ∈ big := mb 405 (by decide +kernel) rfl
set_option maxRecDepth 100000 in
theorem wd_406 : (.code yX0_get cX0_get 3 (some .int) : Cond) ∈ big := mb 406 rfl rfl
theorem wd_407 : (.constant RX0 35 (1073746176) : Cond) ∈ big := mb 407 (by decide +kernel) rfl
theorem wd_408 : (.methodLink RX4 252 yX0_set : Cond) ∈ big := mb 408 (by decide +kernel) rfl
theorem wd_409 : (.instanceMethod yX0_set : Cond) ∈ big := mb 409 (by decide +kernel) rfl
theorem wd_410 : (.selects RX0 yX0_set yX0_set : Cond) ∈ big := mb 410 (by decide +kernel) rfl
set_option maxRecDepth 100000 in
theorem wd_411 : (.code yX0_set cX0_set 3 none : Cond) ∈ big := mb 411 rfl rfl
theorem wd_412 : (.constant RX0 36 (-2147483633) : Cond) ∈ big := mb 412 (by decide +kernel) rfl
theorem wd_413 : (.methodLink RL 44 yX4_run : Cond) ∈ big := mb 413 (by decide +kernel) rfl
theorem wd_414 : (.instanceMethod yX4_run : Cond) ∈ big := mb 414 (by decide +kernel) rfl
theorem wd_415 : (.selects RX4 yX4_run yX4_run : Cond) ∈ big := mb 415 (by decide +kernel) rfl
set_option maxRecDepth 100000 in
theorem wd_416 : (.code yX4_run cX4_run 3 (some .int) : Cond) ∈ big := mb 416 rfl rfl
theorem wd_418 : (.methodLink RX4 92 yX3_advance : Cond) ∈ big := mb 418 (by decide +kernel) rfl
theorem wd_419 : (.instanceMethod yX3_advance : Cond) ∈ big := mb 419 (by decide +kernel) rfl
theorem wd_420 : (.selects RX3 yX3_advance yX3_advance : Cond) ∈ big := mb 420 (by decide +kernel) rfl
set_option maxRecDepth 100000 in
theorem wd_421 : (.code yX3_advance cX3_advance 1 none : Cond) ∈ big := mb 421 rfl rfl
theorem wd_422 : (.methodLink RL 48 yX4_tick : Cond) ∈ big := mb 422 (by decide +kernel) rfl
theorem wd_423 : (.instanceMethod yX4_tick : Cond) ∈ big := mb 423 (by decide +kernel) rfl
theorem wd_424 : (.selects RX4 yX4_tick yX4_tick : Cond) ∈ big := mb 424 (by decide +kernel) rfl
set_option maxRecDepth 100000 in
theorem wd_425 : (.code yX4_tick cX4_tick 1 none : Cond) ∈ big := mb 425 rfl rfl
theorem wd_426 : (.methodLink RL 52 yX4_reg : Cond) ∈ big := mb 426 (by decide +kernel) rfl
theorem wd_427 : (.instanceMethod yX4_reg : Cond) ∈ big := mb 427 (by decide +kernel) rfl
theorem wd_428 : (.selects RX4 yX4_reg yX4_reg : Cond) ∈ big := mb 428 (by decide +kernel) rfl
set_option maxRecDepth 100000 in
theorem wd_429 : (.code yX4_reg cX4_reg 2 (some .int) : Cond) ∈ big := mb 429 rfl rfl
theorem wd_430 : (.methodLink RL 56 yX4_pc : Cond) ∈ big := mb 430 (by decide +kernel) rfl
theorem wd_431 : (.instanceMethod yX4_pc : Cond) ∈ big := mb 431 (by decide +kernel) rfl
theorem wd_432 : (.selects RX4 yX4_pc yX4_pc : Cond) ∈ big := mb 432 (by decide +kernel) rfl
set_option maxRecDepth 100000 in
theorem wd_433 : (.code yX4_pc cX4_pc 1 (some .int) : Cond) ∈ big := mb 433 rfl rfl
theorem wd_434 : (.methodLink RL 60 yX4_csr : Cond) ∈ big := mb 434 (by decide +kernel) rfl
theorem wd_435 : (.instanceMethod yX4_csr : Cond) ∈ big := mb 435 (by decide +kernel) rfl
theorem wd_436 : (.selects RX4 yX4_csr yX4_csr : Cond) ∈ big := mb 436 (by decide +kernel) rfl
set_option maxRecDepth 100000 in
theorem wd_437 : (.code yX4_csr cX4_csr 2 (some .int) : Cond) ∈ big := mb 437 rfl rfl
theorem wd_438 : (.methodLink RL 64 yX4_told : Cond) ∈ big := mb 438 (by decide +kernel) rfl
theorem wd_439 : (.instanceMethod yX4_told : Cond) ∈ big := mb 439 (by decide +kernel) rfl
theorem wd_440 : (.selects RX4 yX4_told yX4_told : Cond) ∈ big := mb 440 (by decide +kernel) rfl
set_option maxRecDepth 100000 in
theorem wd_441 : (.code yX4_told cX4_told 2 (some .long) : Cond) ∈ big := mb 441 rfl rfl
theorem wd_442 : (.methodLink RL 69 yX4_outSize : Cond) ∈ big := mb 442 (by decide +kernel) rfl
theorem wd_443 : (.instanceMethod yX4_outSize : Cond) ∈ big := mb 443 (by decide +kernel) rfl
theorem wd_444 : (.selects RX4 yX4_outSize yX4_outSize : Cond) ∈ big := mb 444 (by decide +kernel) rfl
set_option maxRecDepth 100000 in
theorem wd_445 : (.code yX4_outSize cX4_outSize 1 (some .int) : Cond) ∈ big := mb 445 rfl rfl
theorem wd_446 : (.methodLink RL 73 yX4_out : Cond) ∈ big := mb 446 (by decide +kernel) rfl
theorem wd_447 : (.instanceMethod yX4_out : Cond) ∈ big := mb 447 (by decide +kernel) rfl
theorem wd_448 : (.selects RX4 yX4_out yX4_out : Cond) ∈ big := mb 448 (by decide +kernel) rfl
set_option maxRecDepth 100000 in
theorem wd_449 : (.code yX4_out cX4_out 2 (some .int) : Cond) ∈ big := mb 449 rfl rfl
theorem wd_450 : (.methodLink RX4 114 yX2_byteAt : Cond) ∈ big := mb 450 (by decide +kernel) rfl
theorem wd_451 : (.instanceMethod yX2_byteAt : Cond) ∈ big := mb 451 (by decide +kernel) rfl
theorem wd_452 : (.selects RX2 yX2_byteAt yX2_byteAt : Cond) ∈ big := mb 452 (by decide +kernel) rfl
set_option maxRecDepth 100000 in
theorem wd_453 : (.code yX2_byteAt cX2_byteAt 2 (some .int) : Cond) ∈ big := mb 453 rfl rfl
theorem wd_454 : (.methodLink RL 9 yL_cell : Cond) ∈ big := mb 454 (by decide +kernel) rfl
theorem wd_455 : (.static yL_cell : Cond) ∈ big := mb 455 (by decide +kernel) rfl
set_option maxRecDepth 100000 in
theorem wd_456 : (.code yL_cell cL_cell 2 (some .int) : Cond) ∈ big := mb 456 rfl rfl
theorem wd_459 : (.methodLink RL 20 yX5_init : Cond) ∈ big := mb 459 (by decide +kernel) rfl
set_option maxRecDepth 100000 in
theorem wd_461 : (.code yX5_init cX5_init 4 none : Cond) ∈ big := mb 461 rfl rfl
theorem wd_462 : (.methodLink RX5 1 objectInit : Cond) ∈ big := mb 462 (by decide +kernel) rfl
theorem wd_464 : (.methodLink RX5 27 yX5_reset : Cond) ∈ big := mb 464 (by decide +kernel) rfl
theorem wd_465 : (.instanceMethod yX5_reset : Cond) ∈ big := mb 465 (by decide +kernel) rfl
theorem wd_466 : (.selects RX5 yX5_reset yX5_reset : Cond) ∈ big := mb 466 (by decide +kernel) rfl
set_option maxRecDepth 100000 in
theorem wd_467 : (.code yX5_reset cX5_reset 2 none : Cond) ∈ big := mb 467 rfl rfl
theorem wd_469 : (.fieldLink RX5 20 "RvCoreModel" "size" "I" : Cond) ∈ big := mb 469 (by decide +kernel) rfl
theorem wd_470 : (.fieldLink RX5 24 "RvCoreModel" "most" "I" : Cond) ∈ big := mb 470 (by decide +kernel) rfl
theorem wd_471 : (.fieldLink RX5 8 "RvCoreModel" "memory" "[I" : Cond) ∈ big := mb 471 (by decide +kernel) rfl
theorem wd_472 : (.fieldLink RX5 14 "RvCoreModel" "x" "[I" : Cond) ∈ big := mb 472 (by decide +kernel) rfl
theorem wd_473 : (.fieldLink RX5 30 "RvCoreModel" "pc" "I" : Cond) ∈ big := mb 473 (by decide +kernel) rfl
theorem wd_474 : (.fieldLink RX5 33 "RvCoreModel" "mie" "Z" : Cond) ∈ big := mb 474 (by decide +kernel) rfl
theorem wd_475 : (.fieldLink RX5 37 "RvCoreModel" "mpie" "Z" : Cond) ∈ big := mb 475 (by decide +kernel) rfl
theorem wd_476 : (.fieldLink RX5 40 "RvCoreModel" "mieBits" "I" : Cond) ∈ big := mb 476 (by decide +kernel) rfl
theorem wd_477 : (.fieldLink RX5 43 "RvCoreModel" "mtvec" "I" : Cond) ∈ big := mb 477 (by decide +kernel) rfl
theorem wd_478 : (.fieldLink RX5 46 "RvCoreModel" "mscratch" "I" : Cond) ∈ big := mb 478 (by decide +kernel) rfl
theorem wd_479 : (.fieldLink RX5 49 "RvCoreModel" "mepc" "I" : Cond) ∈ big := mb 479 (by decide +kernel) rfl
theorem wd_480 : (.fieldLink RX5 52 "RvCoreModel" "mcause" "I" : Cond) ∈ big := mb 480 (by decide +kernel) rfl
theorem wd_481 : (.fieldLink RX5 55 "RvCoreModel" "mtval" "I" : Cond) ∈ big := mb 481 (by decide +kernel) rfl
theorem wd_482 : (.fieldLink RX5 58 "RvCoreModel" "time" "J" : Cond) ∈ big := mb 482 (by decide +kernel) rfl
theorem wd_483 : (.fieldLink RX5 64 "RvCoreModel" "limit" "J" : Cond) ∈ big := mb 483 (by decide +kernel) rfl
theorem wd_484 : (.fieldLink RX5 17 "RvCoreModel" "sent" "[I" : Cond) ∈ big := mb 484 (by decide +kernel) rfl
theorem wd_485 : (.fieldLink RX5 67 "RvCoreModel" "sentMany" "I" : Cond) ∈ big := mb 485 (by decide +kernel) rfl
theorem wd_486 : (.fieldLink RX5 70 "RvCoreModel" "retired" "J" : Cond) ∈ big := mb 486 (by decide +kernel) rfl
theorem wd_487 : (.fieldLink RX5 73 "RvCoreModel" "waits" "Z" : Cond) ∈ big := mb 487 (by decide +kernel) rfl
theorem wd_488 : (.fieldLink RX5 76 "RvCoreModel" "latest" "I" : Cond) ∈ big := mb 488 (by decide +kernel) rfl
theorem wd_489 : (.fieldLink RX5 118 "RvCoreModel" "word" "I" : Cond) ∈ big := mb 489 (by decide +kernel) rfl
theorem wd_490 : (.fieldLink RX5 124 "RvCoreModel" "d" "I" : Cond) ∈ big := mb 490 (by decide +kernel) rfl
theorem wd_491 : (.fieldLink RX5 127 "RvCoreModel" "f" "I" : Cond) ∈ big := mb 491 (by decide +kernel) rfl
theorem wd_492 : (.fieldLink RX5 130 "RvCoreModel" "s" "I" : Cond) ∈ big := mb 492 (by decide +kernel) rfl
theorem wd_493 : (.fieldLink RX5 133 "RvCoreModel" "t" "I" : Cond) ∈ big := mb 493 (by decide +kernel) rfl
theorem wd_494 : (.fieldLink RX5 136 "RvCoreModel" "g" "I" : Cond) ∈ big := mb 494 (by decide +kernel) rfl
theorem wd_495 : (.fieldLink RX5 139 "RvCoreModel" "next" "I" : Cond) ∈ big := mb 495 (by decide +kernel) rfl
theorem wd_551 : (.methodLink RL 24 yX5_reset : Cond) ∈ big := mb 551 (by decide +kernel) rfl
theorem wd_552 : (.methodLink RL 29 yX5_poke : Cond) ∈ big := mb 552 (by decide +kernel) rfl
theorem wd_553 : (.instanceMethod yX5_poke : Cond) ∈ big := mb 553 (by decide +kernel) rfl
theorem wd_554 : (.selects RX5 yX5_poke yX5_poke : Cond) ∈ big := mb 554 (by decide +kernel) rfl
set_option maxRecDepth 100000 in
theorem wd_555 : (.code yX5_poke cX5_poke 3 (some .boolean) : Cond) ∈ big := mb 555 rfl rfl
theorem wd_556 : (.methodLink RX5 79 yX5_isThere : Cond) ∈ big := mb 556 (by decide +kernel) rfl
theorem wd_558 : (.instanceMethod yX5_isThere : Cond) ∈ big := mb 558 (by decide +kernel) rfl
set_option maxRecDepth 100000 in
theorem wd_559 : (.code yX5_isThere cX5_isThere 3 (some .boolean) : Cond) ∈ big := mb 559 rfl rfl
theorem wd_560 : (.methodLink RL 33 yX5_load : Cond) ∈ big := mb 560 (by decide +kernel) rfl
theorem wd_561 : (.instanceMethod yX5_load : Cond) ∈ big := mb 561 (by decide +kernel) rfl
theorem wd_562 : (.selects RX5 yX5_load yX5_load : Cond) ∈ big := mb 562 (by decide +kernel) rfl
set_option maxRecDepth 100000 in
theorem wd_563 : (.code yX5_load cX5_load 3 (some .boolean) : Cond) ∈ big := mb 563 rfl rfl
theorem wd_564 : (.methodLink RX5 83 yX5_put : Cond) ∈ big := mb 564 (by decide +kernel) rfl
theorem wd_566 : (.instanceMethod yX5_put : Cond) ∈ big := mb 566 (by decide +kernel) rfl
set_option maxRecDepth 100000 in
theorem wd_567 : (.code yX5_put cX5_put 5 none : Cond) ∈ big := mb 567 rfl rfl
theorem wd_568 : (.methodLink RL 38 yX5_peek : Cond) ∈ big := mb 568 (by decide +kernel) rfl
theorem wd_569 : (.instanceMethod yX5_peek : Cond) ∈ big := mb 569 (by decide +kernel) rfl
theorem wd_570 : (.selects RX5 yX5_peek yX5_peek : Cond) ∈ big := mb 570 (by decide +kernel) rfl
set_option maxRecDepth 100000 in
theorem wd_571 : (.code yX5_peek cX5_peek 2 (some .int) : Cond) ∈ big := mb 571 rfl rfl
theorem wd_572 : (.methodLink RL 63 yX5_csr : Cond) ∈ big := mb 572 (by decide +kernel) rfl
theorem wd_573 : (.instanceMethod yX5_csr : Cond) ∈ big := mb 573 (by decide +kernel) rfl
theorem wd_574 : (.selects RX5 yX5_csr yX5_csr : Cond) ∈ big := mb 574 (by decide +kernel) rfl
set_option maxRecDepth 100000 in
theorem wd_575 : (.code yX5_csr cX5_csr 2 (some .int) : Cond) ∈ big := mb 575 rfl rfl
theorem wd_576 : (.constant RX5 89 (1073746176) : Cond) ∈ big := mb 576 (by decide +kernel) rfl
theorem wd_577 : (.methodLink RX5 90 yX5_isDue : Cond) ∈ big := mb 577 (by decide +kernel) rfl
theorem wd_579 : (.instanceMethod yX5_isDue : Cond) ∈ big := mb 579 (by decide +kernel) rfl
set_option maxRecDepth 100000 in
theorem wd_580 : (.code yX5_isDue cX5_isDue 1 (some .boolean) : Cond) ∈ big := mb 580 rfl rfl
theorem wd_581 : (.constantLong RX5 87 (-9223372036854775808) : Cond) ∈ big := mb 581 (by decide +kernel) rfl
theorem wd_582 : (.methodLink RL 43 yX5_step : Cond) ∈ big := mb 582 (by decide +kernel) rfl
theorem wd_583 : (.instanceMethod yX5_step : Cond) ∈ big := mb 583 (by decide +kernel) rfl
theorem wd_584 : (.selects RX5 yX5_step yX5_step : Cond) ∈ big := mb 584 (by decide +kernel) rfl
set_option maxRecDepth 100000 in
theorem wd_585 : (.code yX5_step cX5_step 1 (some .int) : Cond) ∈ big := mb 585 rfl rfl
theorem wd_586 : (.methodLink RX5 95 yX5_once : Cond) ∈ big := mb 586 (by decide +kernel) rfl
theorem wd_588 : (.instanceMethod yX5_once : Cond) ∈ big := mb 588 (by decide +kernel) rfl
set_option maxRecDepth 100000 in
theorem wd_589 : (.code yX5_once cX5_once 4 (some .int) : Cond) ∈ big := mb 589 rfl rfl
theorem wd_590 : (.methodLink RX5 99 yX5_csr : Cond) ∈ big := mb 590 (by decide +kernel) rfl
theorem wd_591 : (.constant RX5 103 (-2147483641) : Cond) ∈ big := mb 591 (by decide +kernel) rfl
theorem wd_592 : (.methodLink RX5 104 yX5_trap : Cond) ∈ big := mb 592 (by decide +kernel) rfl
theorem wd_594 : (.instanceMethod yX5_trap : Cond) ∈ big := mb 594 (by decide +kernel) rfl
set_option maxRecDepth 100000 in
theorem wd_595 : (.code yX5_trap cX5_trap 3 (some .int) : Cond) ∈ big := mb 595 rfl rfl
theorem wd_596 : (.methodLink RX5 108 yX5_instruction : Cond) ∈ big := mb 596 (by decide +kernel) rfl
theorem wd_598 : (.instanceMethod yX5_instruction : Cond) ∈ big := mb 598 (by decide +kernel) rfl
set_option maxRecDepth 100000 in
theorem wd_599 : (.code yX5_instruction cX5_instruction 2 (some .int) : Cond) ∈ big := mb 599 rfl rfl
theorem wd_600 : (.methodLink RX5 121 yX5_get : Cond) ∈ big := mb 600 (by decide +kernel) rfl
theorem wd_602 : (.instanceMethod yX5_get : Cond) ∈ big := mb 602 (by decide +kernel) rfl
set_option maxRecDepth 100000 in
theorem wd_603 : (.code yX5_get cX5_get 5 (some .int) : Cond) ∈ big := mb 603 rfl rfl
theorem wd_604 : (.methodLink RX5 142 yX5_work : Cond) ∈ big := mb 604 (by decide +kernel) rfl
theorem wd_606 : (.instanceMethod yX5_work : Cond) ∈ big := mb 606 (by decide +kernel) rfl
set_option maxRecDepth 100000 in
theorem wd_607 : (.code yX5_work cX5_work 2 (some .int) : Cond) ∈ big := mb 607 rfl rfl
theorem wd_608 : (.methodLink RX5 145 yX5_become : Cond) ∈ big := mb 608 (by decide +kernel) rfl
theorem wd_610 : (.instanceMethod yX5_become : Cond) ∈ big := mb 610 (by decide +kernel) rfl
set_option maxRecDepth 100000 in
theorem wd_611 : (.code yX5_become cX5_become 2 (some .int) : Cond) ∈ big := mb 611 rfl rfl
theorem wd_612 : (.constant RX5 148 (1044480) : Cond) ∈ big := mb 612 (by decide +kernel) rfl
theorem wd_613 : (.methodLink RX5 149 yX5_goTo : Cond) ∈ big := mb 613 (by decide +kernel) rfl
theorem wd_615 : (.instanceMethod yX5_goTo : Cond) ∈ big := mb 615 (by decide +kernel) rfl
set_option maxRecDepth 100000 in
theorem wd_616 : (.code yX5_goTo cX5_goTo 4 (some .int) : Cond) ∈ big := mb 616 rfl rfl
theorem wd_617 : (.methodLink RX5 153 yX5_immediate : Cond) ∈ big := mb 617 (by decide +kernel) rfl
theorem wd_619 : (.instanceMethod yX5_immediate : Cond) ∈ big := mb 619 (by decide +kernel) rfl
set_option maxRecDepth 100000 in
theorem wd_620 : (.code yX5_immediate cX5_immediate 1 (some .int) : Cond) ∈ big := mb 620 rfl rfl
theorem wd_621 : (.methodLink RX5 156 yX5_illegal : Cond) ∈ big := mb 621 (by decide +kernel) rfl
theorem wd_623 : (.instanceMethod yX5_illegal : Cond) ∈ big := mb 623 (by decide +kernel) rfl
set_option maxRecDepth 100000 in
theorem wd_624 : (.code yX5_illegal cX5_illegal 1 (some .int) : Cond) ∈ big := mb 624 rfl rfl
theorem wd_625 : (.methodLink RX5 159 yX5_branch : Cond) ∈ big := mb 625 (by decide +kernel) rfl
theorem wd_627 : (.instanceMethod yX5_branch : Cond) ∈ big := mb 627 (by decide +kernel) rfl
set_option maxRecDepth 100000 in
theorem wd_628 : (.code yX5_branch cX5_branch 5 (some .int) : Cond) ∈ big := mb 628 rfl rfl
theorem wd_629 : (.methodLink RX5 181 yX5_isBelow : Cond) ∈ big := mb 629 (by decide +kernel) rfl
theorem wd_630 : (.static yX5_isBelow : Cond) ∈ big := mb 630 (by decide +kernel) rfl
set_option maxRecDepth 100000 in
theorem wd_631 : (.code yX5_isBelow cX5_isBelow 2 (some .boolean) : Cond) ∈ big := mb 631 rfl rfl
theorem wd_632 : (.constant RX5 180 (-2147483648) : Cond) ∈ big := mb 632 (by decide +kernel) rfl
theorem wd_633 : (.methodLink RX5 162 yX5_read : Cond) ∈ big := mb 633 (by decide +kernel) rfl
theorem wd_635 : (.instanceMethod yX5_read : Cond) ∈ big := mb 635 (by decide +kernel) rfl
set_option maxRecDepth 100000 in
theorem wd_636 : (.code yX5_read cX5_read 4 (some .int) : Cond) ∈ big := mb 636 rfl rfl
theorem wd_637 : (.methodLink RX5 184 yX5_isDevice : Cond) ∈ big := mb 637 (by decide +kernel) rfl
theorem wd_638 : (.static yX5_isDevice : Cond) ∈ big := mb 638 (by decide +kernel) rfl
set_option maxRecDepth 100000 in
theorem wd_639 : (.code yX5_isDevice cX5_isDevice 1 (some .boolean) : Cond) ∈ big := mb 639 rfl rfl
theorem wd_640 : (.methodLink RX5 192 yX5_isClock : Cond) ∈ big := mb 640 (by decide +kernel) rfl
theorem wd_641 : (.static yX5_isClock : Cond) ∈ big := mb 641 (by decide +kernel) rfl
set_option maxRecDepth 100000 in
theorem wd_642 : (.code yX5_isClock cX5_isClock 1 (some .boolean) : Cond) ∈ big := mb 642 rfl rfl
theorem wd_643 : (.constant RX5 188 (33603576) : Cond) ∈ big := mb 643 (by decide +kernel) rfl
theorem wd_644 : (.constant RX5 189 (33603580) : Cond) ∈ big := mb 644 (by decide +kernel) rfl
theorem wd_645 : (.constant RX5 190 (33570816) : Cond) ∈ big := mb 645 (by decide +kernel) rfl
theorem wd_646 : (.constant RX5 191 (33570820) : Cond) ∈ big := mb 646 (by decide +kernel) rfl
theorem wd_647 : (.constant RX5 195 (268435456) : Cond) ∈ big := mb 647 (by decide +kernel) rfl
theorem wd_648 : (.methodLink RX5 165 yX5_store : Cond) ∈ big := mb 648 (by decide +kernel) rfl
theorem wd_650 : (.instanceMethod yX5_store : Cond) ∈ big := mb 650 (by decide +kernel) rfl
set_option maxRecDepth 100000 in
theorem wd_651 : (.code yX5_store cX5_store 5 (some .int) : Cond) ∈ big := mb 651 rfl rfl
theorem wd_652 : (.methodLink RX5 198 yX5_mixed : Cond) ∈ big := mb 652 (by decide +kernel) rfl
theorem wd_653 : (.static yX5_mixed : Cond) ∈ big := mb 653 (by decide +kernel) rfl
set_option maxRecDepth 100000 in
theorem wd_654 : (.code yX5_mixed cX5_mixed 4 (some .long) : Cond) ∈ big := mb 654 rfl rfl
theorem wd_655 : (.constantLong RX5 196 (4294967295) : Cond) ∈ big := mb 655 (by decide +kernel) rfl
theorem wd_656 : (.methodLink RX5 168 yX5_reckonBy : Cond) ∈ big := mb 656 (by decide +kernel) rfl
theorem wd_658 : (.instanceMethod yX5_reckonBy : Cond) ∈ big := mb 658 (by decide +kernel) rfl
set_option maxRecDepth 100000 in
theorem wd_659 : (.code yX5_reckonBy cX5_reckonBy 3 (some .int) : Cond) ∈ big := mb 659 rfl rfl
theorem wd_660 : (.methodLink RX5 202 yX5_reckon : Cond) ∈ big := mb 660 (by decide +kernel) rfl
theorem wd_662 : (.instanceMethod yX5_reckon : Cond) ∈ big := mb 662 (by decide +kernel) rfl
set_option maxRecDepth 100000 in
theorem wd_663 : (.code yX5_reckon cX5_reckon 3 (some .int) : Cond) ∈ big := mb 663 rfl rfl
theorem wd_664 : (.methodLink RX5 171 yX5_reckonTwo : Cond) ∈ big := mb 664 (by decide +kernel) rfl
theorem wd_666 : (.instanceMethod yX5_reckonTwo : Cond) ∈ big := mb 666 (by decide +kernel) rfl
set_option maxRecDepth 100000 in
theorem wd_667 : (.code yX5_reckonTwo cX5_reckonTwo 3 (some .int) : Cond) ∈ big := mb 667 rfl rfl
theorem wd_668 : (.methodLink RX5 205 yX5_multiplied : Cond) ∈ big := mb 668 (by decide +kernel) rfl
theorem wd_670 : (.instanceMethod yX5_multiplied : Cond) ∈ big := mb 670 (by decide +kernel) rfl
set_option maxRecDepth 100000 in
theorem wd_671 : (.code yX5_multiplied cX5_multiplied 7 (some .int) : Cond) ∈ big := mb 671 rfl rfl
theorem wd_672 : (.methodLink RX5 174 yX5_system : Cond) ∈ big := mb 672 (by decide +kernel) rfl
theorem wd_674 : (.instanceMethod yX5_system : Cond) ∈ big := mb 674 (by decide +kernel) rfl
set_option maxRecDepth 100000 in
theorem wd_675 : (.code yX5_system cX5_system 1 (some .int) : Cond) ∈ big := mb 675 rfl rfl
theorem wd_676 : (.methodLink RX5 177 yX5_control : Cond) ∈ big := mb 676 (by decide +kernel) rfl
theorem wd_678 : (.instanceMethod yX5_control : Cond) ∈ big := mb 678 (by decide +kernel) rfl
set_option maxRecDepth 100000 in
theorem wd_679 : (.code yX5_control cX5_control 6 (some .int) : Cond) ∈ big := mb 679 rfl rfl
theorem wd_680 : (.methodLink RX5 208 yX5_isListed : Cond) ∈ big := mb 680 (by decide +kernel) rfl
theorem wd_681 : (.static yX5_isListed : Cond) ∈ big := mb 681 (by decide +kernel) rfl
set_option maxRecDepth 100000 in
theorem wd_682 : (.code yX5_isListed cX5_isListed 1 (some .boolean) : Cond) ∈ big := mb 682 rfl rfl
theorem wd_683 : (.methodLink RX5 211 yX5_setCsr : Cond) ∈ big := mb 683 (by decide +kernel) rfl
theorem wd_685 : (.instanceMethod yX5_setCsr : Cond) ∈ big := mb 685 (by decide +kernel) rfl
set_option maxRecDepth 100000 in
theorem wd_686 : (.code yX5_setCsr cX5_setCsr 3 none : Cond) ∈ big := mb 686 rfl rfl
theorem wd_687 : (.constant RX5 94 (-2147483633) : Cond) ∈ big := mb 687 (by decide +kernel) rfl
theorem wd_688 : (.methodLink RL 47 yX5_run : Cond) ∈ big := mb 688 (by decide +kernel) rfl
theorem wd_689 : (.instanceMethod yX5_run : Cond) ∈ big := mb 689 (by decide +kernel) rfl
theorem wd_690 : (.selects RX5 yX5_run yX5_run : Cond) ∈ big := mb 690 (by decide +kernel) rfl
set_option maxRecDepth 100000 in
theorem wd_691 : (.code yX5_run cX5_run 4 (some .int) : Cond) ∈ big := mb 691 rfl rfl
theorem wd_693 : (.methodLink RX5 112 yX5_step : Cond) ∈ big := mb 693 (by decide +kernel) rfl
theorem wd_694 : (.methodLink RX5 115 yX5_tick : Cond) ∈ big := mb 694 (by decide +kernel) rfl
theorem wd_695 : (.instanceMethod yX5_tick : Cond) ∈ big := mb 695 (by decide +kernel) rfl
theorem wd_696 : (.selects RX5 yX5_tick yX5_tick : Cond) ∈ big := mb 696 (by decide +kernel) rfl
set_option maxRecDepth 100000 in
theorem wd_697 : (.code yX5_tick cX5_tick 1 none : Cond) ∈ big := mb 697 rfl rfl
theorem wd_698 : (.methodLink RL 51 yX5_tick : Cond) ∈ big := mb 698 (by decide +kernel) rfl
theorem wd_699 : (.methodLink RL 55 yX5_reg : Cond) ∈ big := mb 699 (by decide +kernel) rfl
theorem wd_700 : (.instanceMethod yX5_reg : Cond) ∈ big := mb 700 (by decide +kernel) rfl
theorem wd_701 : (.selects RX5 yX5_reg yX5_reg : Cond) ∈ big := mb 701 (by decide +kernel) rfl
set_option maxRecDepth 100000 in
theorem wd_702 : (.code yX5_reg cX5_reg 2 (some .int) : Cond) ∈ big := mb 702 rfl rfl
theorem wd_703 : (.methodLink RL 59 yX5_pc : Cond) ∈ big := mb 703 (by decide +kernel) rfl
theorem wd_704 : (.instanceMethod yX5_pc : Cond) ∈ big := mb 704 (by decide +kernel) rfl
theorem wd_705 : (.selects RX5 yX5_pc yX5_pc : Cond) ∈ big := mb 705 (by decide +kernel) rfl
set_option maxRecDepth 100000 in
theorem wd_706 : (.code yX5_pc cX5_pc 1 (some .int) : Cond) ∈ big := mb 706 rfl rfl
theorem wd_707 : (.methodLink RL 68 yX5_told : Cond) ∈ big := mb 707 (by decide +kernel) rfl
theorem wd_708 : (.instanceMethod yX5_told : Cond) ∈ big := mb 708 (by decide +kernel) rfl
theorem wd_709 : (.selects RX5 yX5_told yX5_told : Cond) ∈ big := mb 709 (by decide +kernel) rfl
set_option maxRecDepth 100000 in
theorem wd_710 : (.code yX5_told cX5_told 2 (some .long) : Cond) ∈ big := mb 710 rfl rfl
theorem wd_711 : (.methodLink RL 72 yX5_outSize : Cond) ∈ big := mb 711 (by decide +kernel) rfl
theorem wd_712 : (.instanceMethod yX5_outSize : Cond) ∈ big := mb 712 (by decide +kernel) rfl
theorem wd_713 : (.selects RX5 yX5_outSize yX5_outSize : Cond) ∈ big := mb 713 (by decide +kernel) rfl
set_option maxRecDepth 100000 in
theorem wd_714 : (.code yX5_outSize cX5_outSize 1 (some .int) : Cond) ∈ big := mb 714 rfl rfl
theorem wd_715 : (.methodLink RL 76 yX5_out : Cond) ∈ big := mb 715 (by decide +kernel) rfl
theorem wd_716 : (.instanceMethod yX5_out : Cond) ∈ big := mb 716 (by decide +kernel) rfl
theorem wd_717 : (.selects RX5 yX5_out yX5_out : Cond) ∈ big := mb 717 (by decide +kernel) rfl
set_option maxRecDepth 100000 in
theorem wd_718 : (.code yX5_out cX5_out 2 (some .int) : Cond) ∈ big := mb 718 rfl rfl
theorem inX0 : ∀ w ∈ u_ws RX0 TX0 8, w ∈ big := in_big _ [120, 122, 124, 126, 128, 130, 132, 134] (by decide +kernel) (by decide +kernel)
theorem inX1 : ∀ w ∈ u_ws RX1 TX1 1, w ∈ big := in_big _ [71] (by decide +kernel) (by decide +kernel)
theorem inX2 : ∀ w ∈ u_ws RX2 TX2 2, w ∈ big := in_big _ [99, 101] (by decide +kernel) (by decide +kernel)
theorem inX3 : ∀ w ∈ u_ws RX3 TX3 2, w ∈ big := in_big _ [85, 87] (by decide +kernel) (by decide +kernel)
theorem inX4 : ∀ w ∈ u_ws RX4 TX4 9, w ∈ big := in_big _ [163, 165, 167, 169, 171, 173, 175, 177, 179] (by decide +kernel) (by decide +kernel)
theorem inX5 : ∀ w ∈ u_ws RX5 TX5 27, w ∈ big := in_big _ [496, 498, 500, 502, 504, 506, 508, 510, 512, 514, 516, 518, 520, 522, 524, 526, 528, 530, 532, 534, 536, 538, 540, 542, 544, 546, 548] (by decide +kernel) (by decide +kernel)
theorem ok_J13_compare_74951 : OkS yJ13_compare_74951 cJ13_compare_74951 4 (some .int) 2 := ⟨⟨wd_235, wd_47, by decide +kernel⟩, wd_234⟩
theorem ok_J13_compareUnsigned_74951 : OkS yJ13_compareUnsigned_74951 cJ13_compareUnsigned_74951 4 (some .int) 2 := ⟨⟨wd_231, wd_47, by decide +kernel⟩, wd_230⟩
theorem ok_J6_compare_7cf53 : OkS yJ6_compare_7cf53 cJ6_compare_7cf53 2 (some .int) 2 := ⟨⟨wd_310, wd_48, by decide +kernel⟩, wd_309⟩
theorem ok_J6_compareUnsigned_7cf53 : OkS yJ6_compareUnsigned_7cf53 cJ6_compareUnsigned_7cf53 2 (some .int) 2 := ⟨⟨wd_306, wd_48, by decide +kernel⟩, wd_305⟩
theorem ok_L_cell : OkS yL_cell cL_cell 2 (some .int) 2 := ⟨⟨wd_456, wd_39, by decide +kernel⟩, wd_455⟩
theorem ok_X0_get : OkV yX0_get cX0_get 3 (some .int) 2 := ⟨⟨wd_406, wd_45, by decide +kernel⟩, wd_404, wd_405⟩
theorem ok_X0_lists : OkS yX0_lists cX0_lists 1 (some .boolean) 1 := ⟨⟨wd_402, wd_45, by decide +kernel⟩, wd_401⟩
theorem ok_X3_isDue : OkV yX3_isDue cX3_isDue 1 (some .boolean) 0 := ⟨⟨wd_228, wd_43, by decide +kernel⟩, wd_226, wd_227⟩
theorem ok_X4_csr : OkV yX4_csr cX4_csr 2 (some .int) 1 := ⟨⟨wd_437, wd_40, by decide +kernel⟩, wd_435, wd_436⟩
theorem ok_X0_restart : OkV yX0_restart cX0_restart 1 none 0 := ⟨⟨wd_153, wd_45, by decide +kernel⟩, wd_151, wd_152⟩
theorem ok_X2_restart : OkV yX2_restart cX2_restart 1 none 0 := ⟨⟨wd_149, wd_44, by decide +kernel⟩, wd_147, wd_148⟩
theorem ok_X3_restart : OkV yX3_restart cX3_restart 1 none 0 := ⟨⟨wd_144, wd_43, by decide +kernel⟩, wd_142, wd_143⟩
theorem ok_X4_reset : OkV yX4_reset cX4_reset 2 none 0 := ⟨⟨wd_140, wd_40, by decide +kernel⟩, wd_138, wd_139⟩
theorem ok_X1_holds : OkV yX1_holds cX1_holds 2 (some .boolean) 1 := ⟨⟨wd_190, wd_41, by decide +kernel⟩, wd_188, wd_189⟩
theorem ok_X1_mask : OkS yX1_mask cX1_mask 1 (some .int) 1 := ⟨⟨wd_197, wd_41, by decide +kernel⟩, wd_196⟩
theorem ok_X1_shift : OkS yX1_shift cX1_shift 1 (some .int) 1 := ⟨⟨wd_200, wd_41, by decide +kernel⟩, wd_199⟩
theorem ok_X1_put : OkV yX1_put cX1_put 6 none 3 := ⟨⟨wd_194, wd_41, by decide +kernel⟩, wd_192, wd_193⟩
theorem ok_X4_load : OkV yX4_load cX4_load 4 (some .boolean) 2 := ⟨⟨wd_204, wd_40, by decide +kernel⟩, wd_202, wd_203⟩
theorem ok_X2_byteAt : OkV yX2_byteAt cX2_byteAt 2 (some .int) 1 := ⟨⟨wd_453, wd_44, by decide +kernel⟩, wd_451, wd_452⟩
theorem ok_X4_out : OkV yX4_out cX4_out 2 (some .int) 1 := ⟨⟨wd_449, wd_40, by decide +kernel⟩, wd_447, wd_448⟩
theorem ok_X4_outSize : OkV yX4_outSize cX4_outSize 1 (some .int) 0 := ⟨⟨wd_445, wd_40, by decide +kernel⟩, wd_443, wd_444⟩
theorem ok_X4_pc : OkV yX4_pc cX4_pc 1 (some .int) 0 := ⟨⟨wd_433, wd_40, by decide +kernel⟩, wd_431, wd_432⟩
theorem ok_X1_get : OkV yX1_get cX1_get 3 (some .int) 2 := ⟨⟨wd_212, wd_41, by decide +kernel⟩, wd_210, wd_211⟩
theorem ok_X4_peek : OkV yX4_peek cX4_peek 2 (some .int) 1 := ⟨⟨wd_208, wd_40, by decide +kernel⟩, wd_206, wd_207⟩
theorem ok_X4_poke : OkV yX4_poke cX4_poke 3 (some .boolean) 2 := ⟨⟨wd_186, wd_40, by decide +kernel⟩, wd_184, wd_185⟩
theorem ok_X4_reg : OkV yX4_reg cX4_reg 2 (some .int) 1 := ⟨⟨wd_429, wd_40, by decide +kernel⟩, wd_427, wd_428⟩
theorem ok_X3_advance : OkV yX3_advance cX3_advance 1 none 0 := ⟨⟨wd_421, wd_43, by decide +kernel⟩, wd_419, wd_420⟩
theorem ok_X0_enter : OkV yX0_enter cX0_enter 4 (some .int) 3 := ⟨⟨wd_240, wd_45, by decide +kernel⟩, wd_238, wd_239⟩
theorem ok_X0_hasOwnEntries : OkV yX0_hasOwnEntries cX0_hasOwnEntries 1 (some .boolean) 0 := ⟨⟨wd_244, wd_45, by decide +kernel⟩, wd_242, wd_243⟩
theorem ok_X0_timerEnabled : OkV yX0_timerEnabled cX0_timerEnabled 1 (some .boolean) 0 := ⟨⟨wd_224, wd_45, by decide +kernel⟩, wd_222, wd_223⟩
theorem ok_X4_s : OkS yX4_s cX4_s 1 (some .int) 1 := ⟨⟨wd_282, wd_40, by decide +kernel⟩, wd_281⟩
theorem ok_X4_a : OkV yX4_a cX4_a 2 (some .int) 1 := ⟨⟨wd_279, wd_40, by decide +kernel⟩, wd_278, wd_7⟩
theorem ok_X4_b : OkV yX4_b cX4_b 2 (some .int) 1 := ⟨⟨wd_297, wd_40, by decide +kernel⟩, wd_296, wd_10⟩
theorem ok_X4_belowUnsigned : OkS yX4_belowUnsigned cX4_belowUnsigned 2 (some .boolean) 2 := ⟨⟨wd_303, wd_40, by decide +kernel⟩, wd_302⟩
theorem ok_X4_compares : OkS yX4_compares cX4_compares 3 (some .boolean) 3 := ⟨⟨wd_300, wd_40, by decide +kernel⟩, wd_299⟩
theorem ok_X4_f : OkS yX4_f cX4_f 1 (some .int) 1 := ⟨⟨wd_275, wd_40, by decide +kernel⟩, wd_274⟩
theorem ok_X4_trap : OkV yX4_trap cX4_trap 3 (some .int) 2 := ⟨⟨wd_252, wd_40, by decide +kernel⟩, wd_251, wd_2⟩
theorem ok_X4_illegal : OkV yX4_illegal cX4_illegal 2 (some .int) 1 := ⟨⟨wd_289, wd_40, by decide +kernel⟩, wd_288, wd_8⟩
theorem ok_X4_offsetB : OkS yX4_offsetB cX4_offsetB 1 (some .int) 1 := ⟨⟨wd_313, wd_40, by decide +kernel⟩, wd_312⟩
theorem ok_X4_retireAt : OkV yX4_retireAt cX4_retireAt 2 (some .int) 1 := ⟨⟨wd_264, wd_40, by decide +kernel⟩, wd_263, wd_5⟩
theorem ok_X4_branch : OkV yX4_branch cX4_branch 5 (some .int) 1 := ⟨⟨wd_293, wd_40, by decide +kernel⟩, wd_292, wd_9⟩
theorem ok_X0_set : OkV yX0_set cX0_set 3 none 2 := ⟨⟨wd_411, wd_45, by decide +kernel⟩, wd_409, wd_410⟩
theorem ok_X4_setD : OkV yX4_setD cX4_setD 4 none 2 := ⟨⟨wd_260, wd_40, by decide +kernel⟩, wd_259, wd_4⟩
theorem ok_X4_retire : OkV yX4_retire cX4_retire 3 (some .int) 2 := ⟨⟨wd_256, wd_40, by decide +kernel⟩, wd_255, wd_3⟩
theorem ok_X4_control : OkV yX4_control cX4_control 8 (some .int) 1 := ⟨⟨wd_399, wd_40, by decide +kernel⟩, wd_398, wd_16⟩
theorem ok_X4_jump : OkV yX4_jump cX4_jump 3 (some .int) 2 := ⟨⟨wd_272, wd_40, by decide +kernel⟩, wd_271, wd_6⟩
theorem ok_X4_offsetI : OkS yX4_offsetI cX4_offsetI 1 (some .int) 1 := ⟨⟨wd_285, wd_40, by decide +kernel⟩, wd_284⟩
theorem ok_X4_offsetJ : OkS yX4_offsetJ cX4_offsetJ 1 (some .int) 1 := ⟨⟨wd_267, wd_40, by decide +kernel⟩, wd_266⟩
theorem ok_X2_room : OkV yX2_room cX2_room 1 (some .int) 0 := ⟨⟨wd_342, wd_44, by decide +kernel⟩, wd_340, wd_341⟩
theorem ok_X3_isTime : OkS yX3_isTime cX3_isTime 1 (some .boolean) 1 := ⟨⟨wd_334, wd_43, by decide +kernel⟩, wd_333⟩
theorem ok_X3_isUpper : OkS yX3_isUpper cX3_isUpper 1 (some .boolean) 1 := ⟨⟨wd_337, wd_43, by decide +kernel⟩, wd_336⟩
theorem ok_X3_half : OkV yX3_half cX3_half 4 (some .int) 1 := ⟨⟨wd_331, wd_43, by decide +kernel⟩, wd_329, wd_330⟩
theorem ok_X3_holds : OkS yX3_holds cX3_holds 1 (some .boolean) 1 := ⟨⟨wd_323, wd_43, by decide +kernel⟩, wd_322⟩
theorem ok_X4_extended : OkS yX4_extended cX4_extended 2 (some .int) 2 := ⟨⟨wd_320, wd_40, by decide +kernel⟩, wd_319⟩
theorem ok_X4_read : OkV yX4_read cX4_read 5 (some .int) 1 := ⟨⟨wd_317, wd_40, by decide +kernel⟩, wd_316, wd_11⟩
theorem ok_X4_g : OkS yX4_g cX4_g 1 (some .int) 1 := ⟨⟨wd_373, wd_40, by decide +kernel⟩, wd_372⟩
theorem ok_X4_reckoned : OkS yX4_reckoned cX4_reckoned 4 (some .int) 4 := ⟨⟨wd_376, wd_40, by decide +kernel⟩, wd_375⟩
theorem ok_X4_reckonWithNumber : OkV yX4_reckonWithNumber cX4_reckonWithNumber 5 (some .int) 1 := ⟨⟨wd_370, wd_40, by decide +kernel⟩, wd_369, wd_13⟩
theorem ok_X4_unsigned : OkS yX4_unsigned cX4_unsigned 1 (some .long) 1 := ⟨⟨wd_361, wd_40, by decide +kernel⟩, wd_360⟩
theorem ok_X4_divided : OkS yX4_divided cX4_divided 9 (some .int) 3 := ⟨⟨wd_387, wd_40, by decide +kernel⟩, wd_386⟩
theorem ok_X4_product : OkS yX4_product cX4_product 3 (some .int) 3 := ⟨⟨wd_383, wd_40, by decide +kernel⟩, wd_382⟩
theorem ok_X4_reckonWithRegister : OkV yX4_reckonWithRegister cX4_reckonWithRegister 6 (some .int) 1 := ⟨⟨wd_380, wd_40, by decide +kernel⟩, wd_379, wd_14⟩
theorem ok_X2_send : OkV yX2_send cX2_send 2 (some .boolean) 1 := ⟨⟨wd_366, wd_44, by decide +kernel⟩, wd_364, wd_365⟩
theorem ok_X3_withHalf : OkS yX3_withHalf cX3_withHalf 4 (some .long) 3 := ⟨⟨wd_356, wd_43, by decide +kernel⟩, wd_355⟩
theorem ok_X3_setHalf : OkV yX3_setHalf cX3_setHalf 3 none 2 := ⟨⟨wd_353, wd_43, by decide +kernel⟩, wd_351, wd_352⟩
theorem ok_X4_offsetS : OkS yX4_offsetS cX4_offsetS 1 (some .int) 1 := ⟨⟨wd_349, wd_40, by decide +kernel⟩, wd_348⟩
theorem ok_X4_store : OkV yX4_store cX4_store 5 (some .int) 1 := ⟨⟨wd_346, wd_40, by decide +kernel⟩, wd_345, wd_12⟩
theorem ok_X0_leave : OkV yX0_leave cX0_leave 1 (some .int) 0 := ⟨⟨wd_395, wd_45, by decide +kernel⟩, wd_393, wd_394⟩
theorem ok_X4_system : OkV yX4_system cX4_system 2 (some .int) 1 := ⟨⟨wd_391, wd_40, by decide +kernel⟩, wd_390, wd_15⟩
theorem ok_X4_instruct : OkV yX4_instruct cX4_instruct 2 (some .int) 0 := ⟨⟨wd_248, wd_40, by decide +kernel⟩, wd_247, wd_1⟩
theorem ok_X4_stepOnce : OkV yX4_stepOnce cX4_stepOnce 4 (some .int) 0 := ⟨⟨wd_220, wd_40, by decide +kernel⟩, wd_219, wd_0⟩
theorem ok_X4_run : OkV yX4_run cX4_run 3 (some .int) 1 := ⟨⟨wd_416, wd_40, by decide +kernel⟩, wd_414, wd_415⟩
theorem ok_X4_step : OkV yX4_step cX4_step 1 (some .int) 0 := ⟨⟨wd_216, wd_40, by decide +kernel⟩, wd_214, wd_215⟩
theorem ok_X4_tick : OkV yX4_tick cX4_tick 1 none 0 := ⟨⟨wd_425, wd_40, by decide +kernel⟩, wd_423, wd_424⟩
theorem ok_X4_told : OkV yX4_told cX4_told 2 (some .long) 1 := ⟨⟨wd_441, wd_40, by decide +kernel⟩, wd_439, wd_440⟩
theorem ok_X5_isDue : OkV yX5_isDue cX5_isDue 1 (some .boolean) 0 := ⟨⟨wd_580, wd_46, by decide +kernel⟩, wd_579, wd_19⟩
theorem ok_X5_csr : OkV yX5_csr cX5_csr 2 (some .int) 1 := ⟨⟨wd_575, wd_46, by decide +kernel⟩, wd_573, wd_574⟩
theorem ok_X5_reset : OkV yX5_reset cX5_reset 2 none 0 := ⟨⟨wd_467, wd_46, by decide +kernel⟩, wd_465, wd_466⟩
theorem ok_X5_isThere : OkV yX5_isThere cX5_isThere 3 (some .boolean) 2 := ⟨⟨wd_559, wd_46, by decide +kernel⟩, wd_558, wd_17⟩
theorem ok_X5_put : OkV yX5_put cX5_put 5 none 3 := ⟨⟨wd_567, wd_46, by decide +kernel⟩, wd_566, wd_18⟩
theorem ok_X5_load : OkV yX5_load cX5_load 3 (some .boolean) 2 := ⟨⟨wd_563, wd_46, by decide +kernel⟩, wd_561, wd_562⟩
theorem ok_X5_out : OkV yX5_out cX5_out 2 (some .int) 1 := ⟨⟨wd_718, wd_46, by decide +kernel⟩, wd_716, wd_717⟩
theorem ok_X5_outSize : OkV yX5_outSize cX5_outSize 1 (some .int) 0 := ⟨⟨wd_714, wd_46, by decide +kernel⟩, wd_712, wd_713⟩
theorem ok_X5_pc : OkV yX5_pc cX5_pc 1 (some .int) 0 := ⟨⟨wd_706, wd_46, by decide +kernel⟩, wd_704, wd_705⟩
theorem ok_X5_peek : OkV yX5_peek cX5_peek 2 (some .int) 1 := ⟨⟨wd_571, wd_46, by decide +kernel⟩, wd_569, wd_570⟩
theorem ok_X5_poke : OkV yX5_poke cX5_poke 3 (some .boolean) 2 := ⟨⟨wd_555, wd_46, by decide +kernel⟩, wd_553, wd_554⟩
theorem ok_X5_reg : OkV yX5_reg cX5_reg 2 (some .int) 1 := ⟨⟨wd_702, wd_46, by decide +kernel⟩, wd_700, wd_701⟩
theorem ok_X5_get : OkV yX5_get cX5_get 5 (some .int) 2 := ⟨⟨wd_603, wd_46, by decide +kernel⟩, wd_602, wd_23⟩
theorem ok_X5_trap : OkV yX5_trap cX5_trap 3 (some .int) 2 := ⟨⟨wd_595, wd_46, by decide +kernel⟩, wd_594, wd_21⟩
theorem ok_X5_become : OkV yX5_become cX5_become 2 (some .int) 1 := ⟨⟨wd_611, wd_46, by decide +kernel⟩, wd_610, wd_25⟩
theorem ok_X5_goTo : OkV yX5_goTo cX5_goTo 4 (some .int) 2 := ⟨⟨wd_616, wd_46, by decide +kernel⟩, wd_615, wd_26⟩
theorem ok_X5_illegal : OkV yX5_illegal cX5_illegal 1 (some .int) 0 := ⟨⟨wd_624, wd_46, by decide +kernel⟩, wd_623, wd_28⟩
theorem ok_X5_isBelow : OkS yX5_isBelow cX5_isBelow 2 (some .boolean) 2 := ⟨⟨wd_631, wd_46, by decide +kernel⟩, wd_630⟩
theorem ok_X5_branch : OkV yX5_branch cX5_branch 5 (some .int) 0 := ⟨⟨wd_628, wd_46, by decide +kernel⟩, wd_627, wd_29⟩
theorem ok_X5_isListed : OkS yX5_isListed cX5_isListed 1 (some .boolean) 1 := ⟨⟨wd_682, wd_46, by decide +kernel⟩, wd_681⟩
theorem ok_X5_setCsr : OkV yX5_setCsr cX5_setCsr 3 none 2 := ⟨⟨wd_686, wd_46, by decide +kernel⟩, wd_685, wd_38⟩
theorem ok_X5_control : OkV yX5_control cX5_control 6 (some .int) 0 := ⟨⟨wd_679, wd_46, by decide +kernel⟩, wd_678, wd_37⟩
theorem ok_X5_immediate : OkV yX5_immediate cX5_immediate 1 (some .int) 0 := ⟨⟨wd_620, wd_46, by decide +kernel⟩, wd_619, wd_27⟩
theorem ok_X5_isClock : OkS yX5_isClock cX5_isClock 1 (some .boolean) 1 := ⟨⟨wd_642, wd_46, by decide +kernel⟩, wd_641⟩
theorem ok_X5_isDevice : OkS yX5_isDevice cX5_isDevice 1 (some .boolean) 1 := ⟨⟨wd_639, wd_46, by decide +kernel⟩, wd_638⟩
theorem ok_X5_read : OkV yX5_read cX5_read 4 (some .int) 0 := ⟨⟨wd_636, wd_46, by decide +kernel⟩, wd_635, wd_30⟩
theorem ok_X5_reckon : OkV yX5_reckon cX5_reckon 3 (some .int) 2 := ⟨⟨wd_663, wd_46, by decide +kernel⟩, wd_662, wd_33⟩
theorem ok_X5_reckonBy : OkV yX5_reckonBy cX5_reckonBy 3 (some .int) 1 := ⟨⟨wd_659, wd_46, by decide +kernel⟩, wd_658, wd_32⟩
theorem ok_X5_multiplied : OkV yX5_multiplied cX5_multiplied 7 (some .int) 2 := ⟨⟨wd_671, wd_46, by decide +kernel⟩, wd_670, wd_35⟩
theorem ok_X5_reckonTwo : OkV yX5_reckonTwo cX5_reckonTwo 3 (some .int) 0 := ⟨⟨wd_667, wd_46, by decide +kernel⟩, wd_666, wd_34⟩
theorem ok_X5_mixed : OkS yX5_mixed cX5_mixed 4 (some .long) 3 := ⟨⟨wd_654, wd_46, by decide +kernel⟩, wd_653⟩
theorem ok_X5_store : OkV yX5_store cX5_store 5 (some .int) 0 := ⟨⟨wd_651, wd_46, by decide +kernel⟩, wd_650, wd_31⟩
theorem ok_X5_system : OkV yX5_system cX5_system 1 (some .int) 0 := ⟨⟨wd_675, wd_46, by decide +kernel⟩, wd_674, wd_36⟩
theorem ok_X5_work : OkV yX5_work cX5_work 2 (some .int) 0 := ⟨⟨wd_607, wd_46, by decide +kernel⟩, wd_606, wd_24⟩
theorem ok_X5_instruction : OkV yX5_instruction cX5_instruction 2 (some .int) 0 := ⟨⟨wd_599, wd_46, by decide +kernel⟩, wd_598, wd_22⟩
theorem ok_X5_once : OkV yX5_once cX5_once 4 (some .int) 0 := ⟨⟨wd_589, wd_46, by decide +kernel⟩, wd_588, wd_20⟩
theorem ok_X5_step : OkV yX5_step cX5_step 1 (some .int) 0 := ⟨⟨wd_585, wd_46, by decide +kernel⟩, wd_583, wd_584⟩
theorem ok_X5_tick : OkV yX5_tick cX5_tick 1 none 0 := ⟨⟨wd_697, wd_46, by decide +kernel⟩, wd_695, wd_696⟩
theorem ok_X5_run : OkV yX5_run cX5_run 4 (some .int) 1 := ⟨⟨wd_691, wd_46, by decide +kernel⟩, wd_689, wd_690⟩
theorem ok_X5_told : OkV yX5_told cX5_told 2 (some .long) 1 := ⟨⟨wd_710, wd_46, by decide +kernel⟩, wd_708, wd_709⟩
theorem gf_X0_7 {p : Program} {l : Launch} {e : Env} {R : Room} {s : State} {m : MethodId} {args : Array Value} {below : List Frame} {meth : Method} {c : Code} {H : Heap} {locs : List Loc} {cells slots : Nat} {Q : State → Prop} {cc : ByteArray} {pc nL : Nat} {ls : Array Slot} {rest : List Value} {D : va_G} {q : Nat → Nat} {ca : Nat → ClassId} {nW nB : Nat} {E : KS} (X : Cx p m c cc nL s args RX0 D (tysK ca)) (hP : va_P D vwCl (cwK q ca nW nB E) H) (hdg : decode cc pc = .ok (.getfield 7, 3)) (kk : W p l e R s m args below meth c H locs cells slots Q (F0 m (pc + 3) ls (.int (b2i (kon E)) :: rest))) : W p l e R s m args below meth c H locs cells slots Q (F0 m pc ls (.ref (q 6) :: rest)) :=
  va_get (D := D) (ci := 0)  (C := RX0) (T := TX0) (N := 8)  X.1.1 X.1.2.1 X.1.2.2.2.2 inX0 X.1.2.2.2.1 X.2 hP 6 rfl rfl 0 (by decide) (X.1.2.2.2.2 _ wd_111) (fun _ h => h) rfl hdg kk
theorem gf_X0_13 {p : Program} {l : Launch} {e : Env} {R : Room} {s : State} {m : MethodId} {args : Array Value} {below : List Frame} {meth : Method} {c : Code} {H : Heap} {locs : List Loc} {cells slots : Nat} {Q : State → Prop} {cc : ByteArray} {pc nL : Nat} {ls : Array Slot} {rest : List Value} {D : va_G} {q : Nat → Nat} {ca : Nat → ClassId} {nW nB : Nat} {E : KS} (X : Cx p m c cc nL s args RX0 D (tysK ca)) (hP : va_P D vwCl (cwK q ca nW nB E) H) (hdg : decode cc pc = .ok (.getfield 13, 3)) (kk : W p l e R s m args below meth c H locs cells slots Q (F0 m (pc + 3) ls (.int (b2i (kwas E)) :: rest))) : W p l e R s m args below meth c H locs cells slots Q (F0 m pc ls (.ref (q 6) :: rest)) :=
  va_get (D := D) (ci := 0)  (C := RX0) (T := TX0) (N := 8)  X.1.1 X.1.2.1 X.1.2.2.2.2 inX0 X.1.2.2.2.1 X.2 hP 6 rfl rfl 1 (by decide) (X.1.2.2.2.2 _ wd_113) (fun _ h => h) rfl hdg kk
theorem gf_X0_16 {p : Program} {l : Launch} {e : Env} {R : Room} {s : State} {m : MethodId} {args : Array Value} {below : List Frame} {meth : Method} {c : Code} {H : Heap} {locs : List Loc} {cells slots : Nat} {Q : State → Prop} {cc : ByteArray} {pc nL : Nat} {ls : Array Slot} {rest : List Value} {D : va_G} {q : Nat → Nat} {ca : Nat → ClassId} {nW nB : Nat} {E : KS} (X : Cx p m c cc nL s args RX0 D (tysK ca)) (hP : va_P D vwCl (cwK q ca nW nB E) H) (hdg : decode cc pc = .ok (.getfield 16, 3)) (kk : W p l e R s m args below meth c H locs cells slots Q (F0 m (pc + 3) ls (.int (kenabled E) :: rest))) : W p l e R s m args below meth c H locs cells slots Q (F0 m pc ls (.ref (q 6) :: rest)) :=
  va_get (D := D) (ci := 0)  (C := RX0) (T := TX0) (N := 8)  X.1.1 X.1.2.1 X.1.2.2.2.2 inX0 X.1.2.2.2.1 X.2 hP 6 rfl rfl 2 (by decide) (X.1.2.2.2.2 _ wd_114) (fun _ h => h) rfl hdg kk
theorem gf_X0_20 {p : Program} {l : Launch} {e : Env} {R : Room} {s : State} {m : MethodId} {args : Array Value} {below : List Frame} {meth : Method} {c : Code} {H : Heap} {locs : List Loc} {cells slots : Nat} {Q : State → Prop} {cc : ByteArray} {pc nL : Nat} {ls : Array Slot} {rest : List Value} {D : va_G} {q : Nat → Nat} {ca : Nat → ClassId} {nW nB : Nat} {E : KS} (X : Cx p m c cc nL s args RX0 D (tysK ca)) (hP : va_P D vwCl (cwK q ca nW nB E) H) (hdg : decode cc pc = .ok (.getfield 20, 3)) (kk : W p l e R s m args below meth c H locs cells slots Q (F0 m (pc + 3) ls (.int (kvector E) :: rest))) : W p l e R s m args below meth c H locs cells slots Q (F0 m pc ls (.ref (q 6) :: rest)) :=
  va_get (D := D) (ci := 0)  (C := RX0) (T := TX0) (N := 8)  X.1.1 X.1.2.1 X.1.2.2.2.2 inX0 X.1.2.2.2.1 X.2 hP 6 rfl rfl 3 (by decide) (X.1.2.2.2.2 _ wd_115) (fun _ h => h) rfl hdg kk
theorem gf_X0_23 {p : Program} {l : Launch} {e : Env} {R : Room} {s : State} {m : MethodId} {args : Array Value} {below : List Frame} {meth : Method} {c : Code} {H : Heap} {locs : List Loc} {cells slots : Nat} {Q : State → Prop} {cc : ByteArray} {pc nL : Nat} {ls : Array Slot} {rest : List Value} {D : va_G} {q : Nat → Nat} {ca : Nat → ClassId} {nW nB : Nat} {E : KS} (X : Cx p m c cc nL s args RX0 D (tysK ca)) (hP : va_P D vwCl (cwK q ca nW nB E) H) (hdg : decode cc pc = .ok (.getfield 23, 3)) (kk : W p l e R s m args below meth c H locs cells slots Q (F0 m (pc + 3) ls (.int (kscratch E) :: rest))) : W p l e R s m args below meth c H locs cells slots Q (F0 m pc ls (.ref (q 6) :: rest)) :=
  va_get (D := D) (ci := 0)  (C := RX0) (T := TX0) (N := 8)  X.1.1 X.1.2.1 X.1.2.2.2.2 inX0 X.1.2.2.2.1 X.2 hP 6 rfl rfl 4 (by decide) (X.1.2.2.2.2 _ wd_116) (fun _ h => h) rfl hdg kk
theorem gf_X0_26 {p : Program} {l : Launch} {e : Env} {R : Room} {s : State} {m : MethodId} {args : Array Value} {below : List Frame} {meth : Method} {c : Code} {H : Heap} {locs : List Loc} {cells slots : Nat} {Q : State → Prop} {cc : ByteArray} {pc nL : Nat} {ls : Array Slot} {rest : List Value} {D : va_G} {q : Nat → Nat} {ca : Nat → ClassId} {nW nB : Nat} {E : KS} (X : Cx p m c cc nL s args RX0 D (tysK ca)) (hP : va_P D vwCl (cwK q ca nW nB E) H) (hdg : decode cc pc = .ok (.getfield 26, 3)) (kk : W p l e R s m args below meth c H locs cells slots Q (F0 m (pc + 3) ls (.int (kback E) :: rest))) : W p l e R s m args below meth c H locs cells slots Q (F0 m pc ls (.ref (q 6) :: rest)) :=
  va_get (D := D) (ci := 0)  (C := RX0) (T := TX0) (N := 8)  X.1.1 X.1.2.1 X.1.2.2.2.2 inX0 X.1.2.2.2.1 X.2 hP 6 rfl rfl 5 (by decide) (X.1.2.2.2.2 _ wd_117) (fun _ h => h) rfl hdg kk
theorem gf_X0_29 {p : Program} {l : Launch} {e : Env} {R : Room} {s : State} {m : MethodId} {args : Array Value} {below : List Frame} {meth : Method} {c : Code} {H : Heap} {locs : List Loc} {cells slots : Nat} {Q : State → Prop} {cc : ByteArray} {pc nL : Nat} {ls : Array Slot} {rest : List Value} {D : va_G} {q : Nat → Nat} {ca : Nat → ClassId} {nW nB : Nat} {E : KS} (X : Cx p m c cc nL s args RX0 D (tysK ca)) (hP : va_P D vwCl (cwK q ca nW nB E) H) (hdg : decode cc pc = .ok (.getfield 29, 3)) (kk : W p l e R s m args below meth c H locs cells slots Q (F0 m (pc + 3) ls (.int (kcause E) :: rest))) : W p l e R s m args below meth c H locs cells slots Q (F0 m pc ls (.ref (q 6) :: rest)) :=
  va_get (D := D) (ci := 0)  (C := RX0) (T := TX0) (N := 8)  X.1.1 X.1.2.1 X.1.2.2.2.2 inX0 X.1.2.2.2.1 X.2 hP 6 rfl rfl 6 (by decide) (X.1.2.2.2.2 _ wd_118) (fun _ h => h) rfl hdg kk
theorem gf_X0_32 {p : Program} {l : Launch} {e : Env} {R : Room} {s : State} {m : MethodId} {args : Array Value} {below : List Frame} {meth : Method} {c : Code} {H : Heap} {locs : List Loc} {cells slots : Nat} {Q : State → Prop} {cc : ByteArray} {pc nL : Nat} {ls : Array Slot} {rest : List Value} {D : va_G} {q : Nat → Nat} {ca : Nat → ClassId} {nW nB : Nat} {E : KS} (X : Cx p m c cc nL s args RX0 D (tysK ca)) (hP : va_P D vwCl (cwK q ca nW nB E) H) (hdg : decode cc pc = .ok (.getfield 32, 3)) (kk : W p l e R s m args below meth c H locs cells slots Q (F0 m (pc + 3) ls (.int (kvalue E) :: rest))) : W p l e R s m args below meth c H locs cells slots Q (F0 m pc ls (.ref (q 6) :: rest)) :=
  va_get (D := D) (ci := 0)  (C := RX0) (T := TX0) (N := 8)  X.1.1 X.1.2.1 X.1.2.2.2.2 inX0 X.1.2.2.2.1 X.2 hP 6 rfl rfl 7 (by decide) (X.1.2.2.2.2 _ wd_119) (fun _ h => h) rfl hdg kk
theorem gf_X3_7 {p : Program} {l : Launch} {e : Env} {R : Room} {s : State} {m : MethodId} {args : Array Value} {below : List Frame} {meth : Method} {c : Code} {H : Heap} {locs : List Loc} {cells slots : Nat} {Q : State → Prop} {cc : ByteArray} {pc nL : Nat} {ls : Array Slot} {rest : List Value} {D : va_G} {q : Nat → Nat} {ca : Nat → ClassId} {nW nB : Nat} {E : KS} (X : Cx p m c cc nL s args RX3 D (tysK ca)) (hP : va_P D vwCl (cwK q ca nW nB E) H) (hdg : decode cc pc = .ok (.getfield 7, 3)) (kk : W p l e R s m args below meth c H locs cells slots Q (F0 m (pc + 3) ls (.long (ktime E) :: rest))) : W p l e R s m args below meth c H locs cells slots Q (F0 m pc ls (.ref (q 3) :: rest)) :=
  va_get (D := D) (ci := 3)  (C := RX3) (T := TX3) (N := 2)  X.1.1 X.1.2.1 X.1.2.2.2.2 inX3 X.1.2.2.2.1 X.2 hP 3 rfl rfl 0 (by decide) (X.1.2.2.2.2 _ wd_81) (fun _ h => h) rfl hdg kk
theorem gf_X3_15 {p : Program} {l : Launch} {e : Env} {R : Room} {s : State} {m : MethodId} {args : Array Value} {below : List Frame} {meth : Method} {c : Code} {H : Heap} {locs : List Loc} {cells slots : Nat} {Q : State → Prop} {cc : ByteArray} {pc nL : Nat} {ls : Array Slot} {rest : List Value} {D : va_G} {q : Nat → Nat} {ca : Nat → ClassId} {nW nB : Nat} {E : KS} (X : Cx p m c cc nL s args RX3 D (tysK ca)) (hP : va_P D vwCl (cwK q ca nW nB E) H) (hdg : decode cc pc = .ok (.getfield 15, 3)) (kk : W p l e R s m args below meth c H locs cells slots Q (F0 m (pc + 3) ls (.long (klimit E) :: rest))) : W p l e R s m args below meth c H locs cells slots Q (F0 m pc ls (.ref (q 3) :: rest)) :=
  va_get (D := D) (ci := 3)  (C := RX3) (T := TX3) (N := 2)  X.1.1 X.1.2.1 X.1.2.2.2.2 inX3 X.1.2.2.2.1 X.2 hP 3 rfl rfl 1 (by decide) (X.1.2.2.2.2 _ wd_83) (fun _ h => h) rfl hdg kk
theorem gf_X4_45 {p : Program} {l : Launch} {e : Env} {R : Room} {s : State} {m : MethodId} {args : Array Value} {below : List Frame} {meth : Method} {c : Code} {H : Heap} {locs : List Loc} {cells slots : Nat} {Q : State → Prop} {cc : ByteArray} {pc nL : Nat} {ls : Array Slot} {rest : List Value} {D : va_G} {q : Nat → Nat} {ca : Nat → ClassId} {nW nB : Nat} {E : KS} (X : Cx p m c cc nL s args RX4 D (tysK ca)) (hP : va_P D vwCl (cwK q ca nW nB E) H) (hdg : decode cc pc = .ok (.getfield 45, 3)) (kk : W p l e R s m args below meth c H locs cells slots Q (F0 m (pc + 3) ls (.ref (q 6) :: rest))) : W p l e R s m args below meth c H locs cells slots Q (F0 m pc ls (.ref (q 0) :: rest)) :=
  va_get (D := D) (ci := 4)  (C := RX4) (T := TX4) (N := 9)  X.1.1 X.1.2.1 X.1.2.2.2.2 inX4 X.1.2.2.2.1 X.2 hP 0 rfl rfl 3 (by decide) (X.1.2.2.2.2 _ wd_157) (fun _ h => h) rfl hdg kk
theorem gf_X4_31 {p : Program} {l : Launch} {e : Env} {R : Room} {s : State} {m : MethodId} {args : Array Value} {below : List Frame} {meth : Method} {c : Code} {H : Heap} {locs : List Loc} {cells slots : Nat} {Q : State → Prop} {cc : ByteArray} {pc nL : Nat} {ls : Array Slot} {rest : List Value} {D : va_G} {q : Nat → Nat} {ca : Nat → ClassId} {nW nB : Nat} {E : KS} (X : Cx p m c cc nL s args RX4 D (tysK ca)) (hP : va_P D vwCl (cwK q ca nW nB E) H) (hdg : decode cc pc = .ok (.getfield 31, 3)) (kk : W p l e R s m args below meth c H locs cells slots Q (F0 m (pc + 3) ls (.ref (q 3) :: rest))) : W p l e R s m args below meth c H locs cells slots Q (F0 m pc ls (.ref (q 0) :: rest)) :=
  va_get (D := D) (ci := 4)  (C := RX4) (T := TX4) (N := 9)  X.1.1 X.1.2.1 X.1.2.2.2.2 inX4 X.1.2.2.2.1 X.2 hP 0 rfl rfl 1 (by decide) (X.1.2.2.2.2 _ wd_155) (fun _ h => h) rfl hdg kk
theorem pf_X0_7 {p : Program} {l : Launch} {e : Env} {R : Room} {s : State} {m : MethodId} {args : Array Value} {below : List Frame} {meth : Method} {c : Code} {H H0 : Heap} {locs : List Loc} {cells slots : Nat} {Q : State → Prop} {cc : ByteArray} {pc nL : Nat} {ls : Array Slot} {rest : List Value} {D : va_G} {A : Nat → Prop} {q : Nat → Nat} {ca : Nat → ClassId} {nW nB : Nat} {E : KS} (X : Cx p m c cc nL s args RX0 D (tysK ca)) (hP : va_P D vwCl (cwK q ca nW nB E) H) (hD : va_D A (cwK q ca nW nB E)) (hS : va_S A H0 H locs) (v : Bool) (hdg : decode cc pc = .ok (.putfield 7, 3)) (kk : ∀ (H1 : Heap) (locs1 : List Loc), va_P D vwCl (cwK q ca nW nB (kon_ E v)) H1 → va_D A (cwK q ca nW nB (kon_ E v)) → va_S A H0 H1 locs1 → W p l e R s m args below meth c H1 locs1 cells slots Q (F0 m (pc + 3) ls rest)) : W p l e R s m args below meth c H locs cells slots Q (F0 m pc ls (.int (b2i v) :: .ref (q 6) :: rest)) :=
  va_put (D := D) (ci := 0) (v := .int (b2i v)) (ty := .boolean) (C := RX0) (T := TX0) (N := 8)  X.1.1 X.1.2.1 X.1.2.2.2.2 inX0 tyX0 tyX0_ok nmX0 X.1.2.2.2.1 X.2 hP hD hS 6 rfl rfl 0 (by decide) (X.1.2.2.2.2 _ wd_111) (fun _ h => h) rfl (by decide +kernel) (b2i_nar v) (b2i_fit v) (Nat.le_of_ble_eq_true rfl) hdg (fun H1 locs1 hP1 hD1 hS1 => kk H1 locs1 hP1 hD1 hS1)
theorem pf_X0_13 {p : Program} {l : Launch} {e : Env} {R : Room} {s : State} {m : MethodId} {args : Array Value} {below : List Frame} {meth : Method} {c : Code} {H H0 : Heap} {locs : List Loc} {cells slots : Nat} {Q : State → Prop} {cc : ByteArray} {pc nL : Nat} {ls : Array Slot} {rest : List Value} {D : va_G} {A : Nat → Prop} {q : Nat → Nat} {ca : Nat → ClassId} {nW nB : Nat} {E : KS} (X : Cx p m c cc nL s args RX0 D (tysK ca)) (hP : va_P D vwCl (cwK q ca nW nB E) H) (hD : va_D A (cwK q ca nW nB E)) (hS : va_S A H0 H locs) (v : Bool) (hdg : decode cc pc = .ok (.putfield 13, 3)) (kk : ∀ (H1 : Heap) (locs1 : List Loc), va_P D vwCl (cwK q ca nW nB (kwas_ E v)) H1 → va_D A (cwK q ca nW nB (kwas_ E v)) → va_S A H0 H1 locs1 → W p l e R s m args below meth c H1 locs1 cells slots Q (F0 m (pc + 3) ls rest)) : W p l e R s m args below meth c H locs cells slots Q (F0 m pc ls (.int (b2i v) :: .ref (q 6) :: rest)) :=
  va_put (D := D) (ci := 0) (v := .int (b2i v)) (ty := .boolean) (C := RX0) (T := TX0) (N := 8)  X.1.1 X.1.2.1 X.1.2.2.2.2 inX0 tyX0 tyX0_ok nmX0 X.1.2.2.2.1 X.2 hP hD hS 6 rfl rfl 1 (by decide) (X.1.2.2.2.2 _ wd_113) (fun _ h => h) rfl (by decide +kernel) (b2i_nar v) (b2i_fit v) (Nat.le_of_ble_eq_true rfl) hdg (fun H1 locs1 hP1 hD1 hS1 => kk H1 locs1 hP1 hD1 hS1)
theorem pf_X0_16 {p : Program} {l : Launch} {e : Env} {R : Room} {s : State} {m : MethodId} {args : Array Value} {below : List Frame} {meth : Method} {c : Code} {H H0 : Heap} {locs : List Loc} {cells slots : Nat} {Q : State → Prop} {cc : ByteArray} {pc nL : Nat} {ls : Array Slot} {rest : List Value} {D : va_G} {A : Nat → Prop} {q : Nat → Nat} {ca : Nat → ClassId} {nW nB : Nat} {E : KS} (X : Cx p m c cc nL s args RX0 D (tysK ca)) (hP : va_P D vwCl (cwK q ca nW nB E) H) (hD : va_D A (cwK q ca nW nB E)) (hS : va_S A H0 H locs) (v : Int32) (hdg : decode cc pc = .ok (.putfield 16, 3)) (kk : ∀ (H1 : Heap) (locs1 : List Loc), va_P D vwCl (cwK q ca nW nB (kenabled_ E v)) H1 → va_D A (cwK q ca nW nB (kenabled_ E v)) → va_S A H0 H1 locs1 → W p l e R s m args below meth c H1 locs1 cells slots Q (F0 m (pc + 3) ls rest)) : W p l e R s m args below meth c H locs cells slots Q (F0 m pc ls (.int v :: .ref (q 6) :: rest)) :=
  va_put (D := D) (ci := 0) (v := .int v) (ty := .int) (C := RX0) (T := TX0) (N := 8)  X.1.1 X.1.2.1 X.1.2.2.2.2 inX0 tyX0 tyX0_ok nmX0 X.1.2.2.2.1 X.2 hP hD hS 6 rfl rfl 2 (by decide) (X.1.2.2.2.2 _ wd_114) (fun _ h => h) rfl (by decide +kernel) rfl rfl (Nat.le_of_ble_eq_true rfl) hdg (fun H1 locs1 hP1 hD1 hS1 => kk H1 locs1 hP1 hD1 hS1)
theorem pf_X0_20 {p : Program} {l : Launch} {e : Env} {R : Room} {s : State} {m : MethodId} {args : Array Value} {below : List Frame} {meth : Method} {c : Code} {H H0 : Heap} {locs : List Loc} {cells slots : Nat} {Q : State → Prop} {cc : ByteArray} {pc nL : Nat} {ls : Array Slot} {rest : List Value} {D : va_G} {A : Nat → Prop} {q : Nat → Nat} {ca : Nat → ClassId} {nW nB : Nat} {E : KS} (X : Cx p m c cc nL s args RX0 D (tysK ca)) (hP : va_P D vwCl (cwK q ca nW nB E) H) (hD : va_D A (cwK q ca nW nB E)) (hS : va_S A H0 H locs) (v : Int32) (hdg : decode cc pc = .ok (.putfield 20, 3)) (kk : ∀ (H1 : Heap) (locs1 : List Loc), va_P D vwCl (cwK q ca nW nB (kvector_ E v)) H1 → va_D A (cwK q ca nW nB (kvector_ E v)) → va_S A H0 H1 locs1 → W p l e R s m args below meth c H1 locs1 cells slots Q (F0 m (pc + 3) ls rest)) : W p l e R s m args below meth c H locs cells slots Q (F0 m pc ls (.int v :: .ref (q 6) :: rest)) :=
  va_put (D := D) (ci := 0) (v := .int v) (ty := .int) (C := RX0) (T := TX0) (N := 8)  X.1.1 X.1.2.1 X.1.2.2.2.2 inX0 tyX0 tyX0_ok nmX0 X.1.2.2.2.1 X.2 hP hD hS 6 rfl rfl 3 (by decide) (X.1.2.2.2.2 _ wd_115) (fun _ h => h) rfl (by decide +kernel) rfl rfl (Nat.le_of_ble_eq_true rfl) hdg (fun H1 locs1 hP1 hD1 hS1 => kk H1 locs1 hP1 hD1 hS1)
theorem pf_X0_23 {p : Program} {l : Launch} {e : Env} {R : Room} {s : State} {m : MethodId} {args : Array Value} {below : List Frame} {meth : Method} {c : Code} {H H0 : Heap} {locs : List Loc} {cells slots : Nat} {Q : State → Prop} {cc : ByteArray} {pc nL : Nat} {ls : Array Slot} {rest : List Value} {D : va_G} {A : Nat → Prop} {q : Nat → Nat} {ca : Nat → ClassId} {nW nB : Nat} {E : KS} (X : Cx p m c cc nL s args RX0 D (tysK ca)) (hP : va_P D vwCl (cwK q ca nW nB E) H) (hD : va_D A (cwK q ca nW nB E)) (hS : va_S A H0 H locs) (v : Int32) (hdg : decode cc pc = .ok (.putfield 23, 3)) (kk : ∀ (H1 : Heap) (locs1 : List Loc), va_P D vwCl (cwK q ca nW nB (kscratch_ E v)) H1 → va_D A (cwK q ca nW nB (kscratch_ E v)) → va_S A H0 H1 locs1 → W p l e R s m args below meth c H1 locs1 cells slots Q (F0 m (pc + 3) ls rest)) : W p l e R s m args below meth c H locs cells slots Q (F0 m pc ls (.int v :: .ref (q 6) :: rest)) :=
  va_put (D := D) (ci := 0) (v := .int v) (ty := .int) (C := RX0) (T := TX0) (N := 8)  X.1.1 X.1.2.1 X.1.2.2.2.2 inX0 tyX0 tyX0_ok nmX0 X.1.2.2.2.1 X.2 hP hD hS 6 rfl rfl 4 (by decide) (X.1.2.2.2.2 _ wd_116) (fun _ h => h) rfl (by decide +kernel) rfl rfl (Nat.le_of_ble_eq_true rfl) hdg (fun H1 locs1 hP1 hD1 hS1 => kk H1 locs1 hP1 hD1 hS1)
theorem pf_X0_26 {p : Program} {l : Launch} {e : Env} {R : Room} {s : State} {m : MethodId} {args : Array Value} {below : List Frame} {meth : Method} {c : Code} {H H0 : Heap} {locs : List Loc} {cells slots : Nat} {Q : State → Prop} {cc : ByteArray} {pc nL : Nat} {ls : Array Slot} {rest : List Value} {D : va_G} {A : Nat → Prop} {q : Nat → Nat} {ca : Nat → ClassId} {nW nB : Nat} {E : KS} (X : Cx p m c cc nL s args RX0 D (tysK ca)) (hP : va_P D vwCl (cwK q ca nW nB E) H) (hD : va_D A (cwK q ca nW nB E)) (hS : va_S A H0 H locs) (v : Int32) (hdg : decode cc pc = .ok (.putfield 26, 3)) (kk : ∀ (H1 : Heap) (locs1 : List Loc), va_P D vwCl (cwK q ca nW nB (kback_ E v)) H1 → va_D A (cwK q ca nW nB (kback_ E v)) → va_S A H0 H1 locs1 → W p l e R s m args below meth c H1 locs1 cells slots Q (F0 m (pc + 3) ls rest)) : W p l e R s m args below meth c H locs cells slots Q (F0 m pc ls (.int v :: .ref (q 6) :: rest)) :=
  va_put (D := D) (ci := 0) (v := .int v) (ty := .int) (C := RX0) (T := TX0) (N := 8)  X.1.1 X.1.2.1 X.1.2.2.2.2 inX0 tyX0 tyX0_ok nmX0 X.1.2.2.2.1 X.2 hP hD hS 6 rfl rfl 5 (by decide) (X.1.2.2.2.2 _ wd_117) (fun _ h => h) rfl (by decide +kernel) rfl rfl (Nat.le_of_ble_eq_true rfl) hdg (fun H1 locs1 hP1 hD1 hS1 => kk H1 locs1 hP1 hD1 hS1)
theorem pf_X0_29 {p : Program} {l : Launch} {e : Env} {R : Room} {s : State} {m : MethodId} {args : Array Value} {below : List Frame} {meth : Method} {c : Code} {H H0 : Heap} {locs : List Loc} {cells slots : Nat} {Q : State → Prop} {cc : ByteArray} {pc nL : Nat} {ls : Array Slot} {rest : List Value} {D : va_G} {A : Nat → Prop} {q : Nat → Nat} {ca : Nat → ClassId} {nW nB : Nat} {E : KS} (X : Cx p m c cc nL s args RX0 D (tysK ca)) (hP : va_P D vwCl (cwK q ca nW nB E) H) (hD : va_D A (cwK q ca nW nB E)) (hS : va_S A H0 H locs) (v : Int32) (hdg : decode cc pc = .ok (.putfield 29, 3)) (kk : ∀ (H1 : Heap) (locs1 : List Loc), va_P D vwCl (cwK q ca nW nB (kcause_ E v)) H1 → va_D A (cwK q ca nW nB (kcause_ E v)) → va_S A H0 H1 locs1 → W p l e R s m args below meth c H1 locs1 cells slots Q (F0 m (pc + 3) ls rest)) : W p l e R s m args below meth c H locs cells slots Q (F0 m pc ls (.int v :: .ref (q 6) :: rest)) :=
  va_put (D := D) (ci := 0) (v := .int v) (ty := .int) (C := RX0) (T := TX0) (N := 8)  X.1.1 X.1.2.1 X.1.2.2.2.2 inX0 tyX0 tyX0_ok nmX0 X.1.2.2.2.1 X.2 hP hD hS 6 rfl rfl 6 (by decide) (X.1.2.2.2.2 _ wd_118) (fun _ h => h) rfl (by decide +kernel) rfl rfl (Nat.le_of_ble_eq_true rfl) hdg (fun H1 locs1 hP1 hD1 hS1 => kk H1 locs1 hP1 hD1 hS1)
theorem pf_X0_32 {p : Program} {l : Launch} {e : Env} {R : Room} {s : State} {m : MethodId} {args : Array Value} {below : List Frame} {meth : Method} {c : Code} {H H0 : Heap} {locs : List Loc} {cells slots : Nat} {Q : State → Prop} {cc : ByteArray} {pc nL : Nat} {ls : Array Slot} {rest : List Value} {D : va_G} {A : Nat → Prop} {q : Nat → Nat} {ca : Nat → ClassId} {nW nB : Nat} {E : KS} (X : Cx p m c cc nL s args RX0 D (tysK ca)) (hP : va_P D vwCl (cwK q ca nW nB E) H) (hD : va_D A (cwK q ca nW nB E)) (hS : va_S A H0 H locs) (v : Int32) (hdg : decode cc pc = .ok (.putfield 32, 3)) (kk : ∀ (H1 : Heap) (locs1 : List Loc), va_P D vwCl (cwK q ca nW nB (kvalue_ E v)) H1 → va_D A (cwK q ca nW nB (kvalue_ E v)) → va_S A H0 H1 locs1 → W p l e R s m args below meth c H1 locs1 cells slots Q (F0 m (pc + 3) ls rest)) : W p l e R s m args below meth c H locs cells slots Q (F0 m pc ls (.int v :: .ref (q 6) :: rest)) :=
  va_put (D := D) (ci := 0) (v := .int v) (ty := .int) (C := RX0) (T := TX0) (N := 8)  X.1.1 X.1.2.1 X.1.2.2.2.2 inX0 tyX0 tyX0_ok nmX0 X.1.2.2.2.1 X.2 hP hD hS 6 rfl rfl 7 (by decide) (X.1.2.2.2.2 _ wd_119) (fun _ h => h) rfl (by decide +kernel) rfl rfl (Nat.le_of_ble_eq_true rfl) hdg (fun H1 locs1 hP1 hD1 hS1 => kk H1 locs1 hP1 hD1 hS1)
theorem pf_X2_13 {p : Program} {l : Launch} {e : Env} {R : Room} {s : State} {m : MethodId} {args : Array Value} {below : List Frame} {meth : Method} {c : Code} {H H0 : Heap} {locs : List Loc} {cells slots : Nat} {Q : State → Prop} {cc : ByteArray} {pc nL : Nat} {ls : Array Slot} {rest : List Value} {D : va_G} {A : Nat → Prop} {q : Nat → Nat} {ca : Nat → ClassId} {nW nB : Nat} {E : KS} (X : Cx p m c cc nL s args RX2 D (tysK ca)) (hP : va_P D vwCl (cwK q ca nW nB E) H) (hD : va_D A (cwK q ca nW nB E)) (hS : va_S A H0 H locs) (v : Int32) (hdg : decode cc pc = .ok (.putfield 13, 3)) (kk : ∀ (H1 : Heap) (locs1 : List Loc), va_P D vwCl (cwK q ca nW nB (ksent_ E v)) H1 → va_D A (cwK q ca nW nB (ksent_ E v)) → va_S A H0 H1 locs1 → W p l e R s m args below meth c H1 locs1 cells slots Q (F0 m (pc + 3) ls rest)) : W p l e R s m args below meth c H locs cells slots Q (F0 m pc ls (.int v :: .ref (q 4) :: rest)) :=
  va_put (D := D) (ci := 2) (v := .int v) (ty := .int) (C := RX2) (T := TX2) (N := 2)  X.1.1 X.1.2.1 X.1.2.2.2.2 inX2 tyX2 tyX2_ok nmX2 X.1.2.2.2.1 X.2 hP hD hS 4 rfl rfl 1 (by decide) (X.1.2.2.2.2 _ wd_97) (fun _ h => h) rfl (by decide +kernel) rfl rfl (Nat.le_of_ble_eq_true rfl) hdg (fun H1 locs1 hP1 hD1 hS1 => kk H1 locs1 hP1 hD1 hS1)
theorem pf_X3_7 {p : Program} {l : Launch} {e : Env} {R : Room} {s : State} {m : MethodId} {args : Array Value} {below : List Frame} {meth : Method} {c : Code} {H H0 : Heap} {locs : List Loc} {cells slots : Nat} {Q : State → Prop} {cc : ByteArray} {pc nL : Nat} {ls : Array Slot} {rest : List Value} {D : va_G} {A : Nat → Prop} {q : Nat → Nat} {ca : Nat → ClassId} {nW nB : Nat} {E : KS} (X : Cx p m c cc nL s args RX3 D (tysK ca)) (hP : va_P D vwCl (cwK q ca nW nB E) H) (hD : va_D A (cwK q ca nW nB E)) (hS : va_S A H0 H locs) (v : Int64) (hdg : decode cc pc = .ok (.putfield 7, 3)) (kk : ∀ (H1 : Heap) (locs1 : List Loc), va_P D vwCl (cwK q ca nW nB (ktime_ E v)) H1 → va_D A (cwK q ca nW nB (ktime_ E v)) → va_S A H0 H1 locs1 → W p l e R s m args below meth c H1 locs1 cells slots Q (F0 m (pc + 3) ls rest)) : W p l e R s m args below meth c H locs cells slots Q (F0 m pc ls (.long v :: .ref (q 3) :: rest)) :=
  va_put (D := D) (ci := 3) (v := .long v) (ty := .long) (C := RX3) (T := TX3) (N := 2)  X.1.1 X.1.2.1 X.1.2.2.2.2 inX3 tyX3 tyX3_ok nmX3 X.1.2.2.2.1 X.2 hP hD hS 3 rfl rfl 0 (by decide) (X.1.2.2.2.2 _ wd_81) (fun _ h => h) rfl (by decide +kernel) rfl rfl (Nat.le_of_ble_eq_true rfl) hdg (fun H1 locs1 hP1 hD1 hS1 => kk H1 locs1 hP1 hD1 hS1)
theorem pf_X3_15 {p : Program} {l : Launch} {e : Env} {R : Room} {s : State} {m : MethodId} {args : Array Value} {below : List Frame} {meth : Method} {c : Code} {H H0 : Heap} {locs : List Loc} {cells slots : Nat} {Q : State → Prop} {cc : ByteArray} {pc nL : Nat} {ls : Array Slot} {rest : List Value} {D : va_G} {A : Nat → Prop} {q : Nat → Nat} {ca : Nat → ClassId} {nW nB : Nat} {E : KS} (X : Cx p m c cc nL s args RX3 D (tysK ca)) (hP : va_P D vwCl (cwK q ca nW nB E) H) (hD : va_D A (cwK q ca nW nB E)) (hS : va_S A H0 H locs) (v : Int64) (hdg : decode cc pc = .ok (.putfield 15, 3)) (kk : ∀ (H1 : Heap) (locs1 : List Loc), va_P D vwCl (cwK q ca nW nB (klimit_ E v)) H1 → va_D A (cwK q ca nW nB (klimit_ E v)) → va_S A H0 H1 locs1 → W p l e R s m args below meth c H1 locs1 cells slots Q (F0 m (pc + 3) ls rest)) : W p l e R s m args below meth c H locs cells slots Q (F0 m pc ls (.long v :: .ref (q 3) :: rest)) :=
  va_put (D := D) (ci := 3) (v := .long v) (ty := .long) (C := RX3) (T := TX3) (N := 2)  X.1.1 X.1.2.1 X.1.2.2.2.2 inX3 tyX3 tyX3_ok nmX3 X.1.2.2.2.1 X.2 hP hD hS 3 rfl rfl 1 (by decide) (X.1.2.2.2.2 _ wd_83) (fun _ h => h) rfl (by decide +kernel) rfl rfl (Nat.le_of_ble_eq_true rfl) hdg (fun H1 locs1 hP1 hD1 hS1 => kk H1 locs1 hP1 hD1 hS1)
theorem gf_X1_7 {p : Program} {l : Launch} {e : Env} {R : Room} {s : State} {m : MethodId} {args : Array Value} {below : List Frame} {meth : Method} {c : Code} {H : Heap} {locs : List Loc} {cells slots : Nat} {Q : State → Prop} {cc : ByteArray} {pc nL : Nat} {ls : Array Slot} {rest : List Value} {D : va_G} {q : Nat → Nat} {ca : Nat → ClassId} {nW nB : Nat} {E : KS} (X : Cx p m c cc nL s args RX1 D (tysK ca)) (hP : va_P D vwCl (cwK q ca nW nB E) H) (hdg : decode cc pc = .ok (.getfield 7, 3)) (kk : W p l e R s m args below meth c H locs cells slots Q (F0 m (pc + 3) ls (.ref (q 2) :: rest))) : W p l e R s m args below meth c H locs cells slots Q (F0 m pc ls (.ref (q 1) :: rest)) :=
  va_get (D := D) (ci := 1)  (C := RX1) (T := TX1) (N := 1)  X.1.1 X.1.2.1 X.1.2.2.2.2 inX1 X.1.2.2.2.1 X.2 hP 1 rfl rfl 0 (by decide) (X.1.2.2.2.2 _ wd_70) (fun _ h => h) rfl hdg kk
theorem gf_X4_24 {p : Program} {l : Launch} {e : Env} {R : Room} {s : State} {m : MethodId} {args : Array Value} {below : List Frame} {meth : Method} {c : Code} {H : Heap} {locs : List Loc} {cells slots : Nat} {Q : State → Prop} {cc : ByteArray} {pc nL : Nat} {ls : Array Slot} {rest : List Value} {D : va_G} {q : Nat → Nat} {ca : Nat → ClassId} {nW nB : Nat} {E : KS} (X : Cx p m c cc nL s args RX4 D (tysK ca)) (hP : va_P D vwCl (cwK q ca nW nB E) H) (hdg : decode cc pc = .ok (.getfield 24, 3)) (kk : W p l e R s m args below meth c H locs cells slots Q (F0 m (pc + 3) ls (.ref (q 1) :: rest))) : W p l e R s m args below meth c H locs cells slots Q (F0 m pc ls (.ref (q 0) :: rest)) :=
  va_get (D := D) (ci := 4)  (C := RX4) (T := TX4) (N := 9)  X.1.1 X.1.2.1 X.1.2.2.2.2 inX4 X.1.2.2.2.1 X.2 hP 0 rfl rfl 0 (by decide) (X.1.2.2.2.2 _ wd_154) (fun _ h => h) rfl hdg kk
theorem gf_X2_13 {p : Program} {l : Launch} {e : Env} {R : Room} {s : State} {m : MethodId} {args : Array Value} {below : List Frame} {meth : Method} {c : Code} {H : Heap} {locs : List Loc} {cells slots : Nat} {Q : State → Prop} {cc : ByteArray} {pc nL : Nat} {ls : Array Slot} {rest : List Value} {D : va_G} {q : Nat → Nat} {ca : Nat → ClassId} {nW nB : Nat} {E : KS} (X : Cx p m c cc nL s args RX2 D (tysK ca)) (hP : va_P D vwCl (cwK q ca nW nB E) H) (hdg : decode cc pc = .ok (.getfield 13, 3)) (kk : W p l e R s m args below meth c H locs cells slots Q (F0 m (pc + 3) ls (.int (ksent E) :: rest))) : W p l e R s m args below meth c H locs cells slots Q (F0 m pc ls (.ref (q 4) :: rest)) :=
  va_get (D := D) (ci := 2)  (C := RX2) (T := TX2) (N := 2)  X.1.1 X.1.2.1 X.1.2.2.2.2 inX2 X.1.2.2.2.1 X.2 hP 4 rfl rfl 1 (by decide) (X.1.2.2.2.2 _ wd_97) (fun _ h => h) rfl hdg kk
theorem gf_X2_7 {p : Program} {l : Launch} {e : Env} {R : Room} {s : State} {m : MethodId} {args : Array Value} {below : List Frame} {meth : Method} {c : Code} {H : Heap} {locs : List Loc} {cells slots : Nat} {Q : State → Prop} {cc : ByteArray} {pc nL : Nat} {ls : Array Slot} {rest : List Value} {D : va_G} {q : Nat → Nat} {ca : Nat → ClassId} {nW nB : Nat} {E : KS} (X : Cx p m c cc nL s args RX2 D (tysK ca)) (hP : va_P D vwCl (cwK q ca nW nB E) H) (hdg : decode cc pc = .ok (.getfield 7, 3)) (kk : W p l e R s m args below meth c H locs cells slots Q (F0 m (pc + 3) ls (.ref (q 5) :: rest))) : W p l e R s m args below meth c H locs cells slots Q (F0 m pc ls (.ref (q 4) :: rest)) :=
  va_get (D := D) (ci := 2)  (C := RX2) (T := TX2) (N := 2)  X.1.1 X.1.2.1 X.1.2.2.2.2 inX2 X.1.2.2.2.1 X.2 hP 4 rfl rfl 0 (by decide) (X.1.2.2.2.2 _ wd_96) (fun _ h => h) rfl hdg kk
theorem gf_X4_38 {p : Program} {l : Launch} {e : Env} {R : Room} {s : State} {m : MethodId} {args : Array Value} {below : List Frame} {meth : Method} {c : Code} {H : Heap} {locs : List Loc} {cells slots : Nat} {Q : State → Prop} {cc : ByteArray} {pc nL : Nat} {ls : Array Slot} {rest : List Value} {D : va_G} {q : Nat → Nat} {ca : Nat → ClassId} {nW nB : Nat} {E : KS} (X : Cx p m c cc nL s args RX4 D (tysK ca)) (hP : va_P D vwCl (cwK q ca nW nB E) H) (hdg : decode cc pc = .ok (.getfield 38, 3)) (kk : W p l e R s m args below meth c H locs cells slots Q (F0 m (pc + 3) ls (.ref (q 4) :: rest))) : W p l e R s m args below meth c H locs cells slots Q (F0 m pc ls (.ref (q 0) :: rest)) :=
  va_get (D := D) (ci := 4)  (C := RX4) (T := TX4) (N := 9)  X.1.1 X.1.2.1 X.1.2.2.2.2 inX4 X.1.2.2.2.1 X.2 hP 0 rfl rfl 2 (by decide) (X.1.2.2.2.2 _ wd_156) (fun _ h => h) rfl hdg kk
theorem gf_X4_111 {p : Program} {l : Launch} {e : Env} {R : Room} {s : State} {m : MethodId} {args : Array Value} {below : List Frame} {meth : Method} {c : Code} {H : Heap} {locs : List Loc} {cells slots : Nat} {Q : State → Prop} {cc : ByteArray} {pc nL : Nat} {ls : Array Slot} {rest : List Value} {D : va_G} {q : Nat → Nat} {ca : Nat → ClassId} {nW nB : Nat} {E : KS} (X : Cx p m c cc nL s args RX4 D (tysK ca)) (hP : va_P D vwCl (cwK q ca nW nB E) H) (hdg : decode cc pc = .ok (.getfield 111, 3)) (kk : W p l e R s m args below meth c H locs cells slots Q (F0 m (pc + 3) ls (.int (ksent E) :: rest))) : W p l e R s m args below meth c H locs cells slots Q (F0 m pc ls (.ref (q 4) :: rest)) :=
  va_getN (D := D) (ci := 2)  (C := RX2) (T := TX2) (N := 2)  X.1.1 X.1.2.1 X.1.2.2.2.2 inX2 X.1.2.2.2.1 X.2 hP 4 rfl rfl 1 (by decide) (X.1.2.2.2.2 _ wd_98) (fun _ h => h) rfl hdg kk
theorem gf_X4_56 {p : Program} {l : Launch} {e : Env} {R : Room} {s : State} {m : MethodId} {args : Array Value} {below : List Frame} {meth : Method} {c : Code} {H : Heap} {locs : List Loc} {cells slots : Nat} {Q : State → Prop} {cc : ByteArray} {pc nL : Nat} {ls : Array Slot} {rest : List Value} {D : va_G} {q : Nat → Nat} {ca : Nat → ClassId} {nW nB : Nat} {E : KS} (X : Cx p m c cc nL s args RX4 D (tysK ca)) (hP : va_P D vwCl (cwK q ca nW nB E) H) (hdg : decode cc pc = .ok (.getfield 56, 3)) (kk : W p l e R s m args below meth c H locs cells slots Q (F0 m (pc + 3) ls (.int (kplace E) :: rest))) : W p l e R s m args below meth c H locs cells slots Q (F0 m pc ls (.ref (q 0) :: rest)) :=
  va_get (D := D) (ci := 4)  (C := RX4) (T := TX4) (N := 9)  X.1.1 X.1.2.1 X.1.2.2.2.2 inX4 X.1.2.2.2.1 X.2 hP 0 rfl rfl 5 (by decide) (X.1.2.2.2.2 _ wd_159) (fun _ h => h) rfl hdg kk
theorem gf_X4_49 {p : Program} {l : Launch} {e : Env} {R : Room} {s : State} {m : MethodId} {args : Array Value} {below : List Frame} {meth : Method} {c : Code} {H : Heap} {locs : List Loc} {cells slots : Nat} {Q : State → Prop} {cc : ByteArray} {pc nL : Nat} {ls : Array Slot} {rest : List Value} {D : va_G} {q : Nat → Nat} {ca : Nat → ClassId} {nW nB : Nat} {E : KS} (X : Cx p m c cc nL s args RX4 D (tysK ca)) (hP : va_P D vwCl (cwK q ca nW nB E) H) (hdg : decode cc pc = .ok (.getfield 49, 3)) (kk : W p l e R s m args below meth c H locs cells slots Q (F0 m (pc + 3) ls (.ref (q 7) :: rest))) : W p l e R s m args below meth c H locs cells slots Q (F0 m pc ls (.ref (q 0) :: rest)) :=
  va_get (D := D) (ci := 4)  (C := RX4) (T := TX4) (N := 9)  X.1.1 X.1.2.1 X.1.2.2.2.2 inX4 X.1.2.2.2.1 X.2 hP 0 rfl rfl 4 (by decide) (X.1.2.2.2.2 _ wd_158) (fun _ h => h) rfl hdg kk
theorem pf_X4_56 {p : Program} {l : Launch} {e : Env} {R : Room} {s : State} {m : MethodId} {args : Array Value} {below : List Frame} {meth : Method} {c : Code} {H H0 : Heap} {locs : List Loc} {cells slots : Nat} {Q : State → Prop} {cc : ByteArray} {pc nL : Nat} {ls : Array Slot} {rest : List Value} {D : va_G} {A : Nat → Prop} {q : Nat → Nat} {ca : Nat → ClassId} {nW nB : Nat} {E : KS} (X : Cx p m c cc nL s args RX4 D (tysK ca)) (hP : va_P D vwCl (cwK q ca nW nB E) H) (hD : va_D A (cwK q ca nW nB E)) (hS : va_S A H0 H locs) (v : Int32) (hdg : decode cc pc = .ok (.putfield 56, 3)) (kk : ∀ (H1 : Heap) (locs1 : List Loc), va_P D vwCl (cwK q ca nW nB (kplace_ E v)) H1 → va_D A (cwK q ca nW nB (kplace_ E v)) → va_S A H0 H1 locs1 → W p l e R s m args below meth c H1 locs1 cells slots Q (F0 m (pc + 3) ls rest)) : W p l e R s m args below meth c H locs cells slots Q (F0 m pc ls (.int v :: .ref (q 0) :: rest)) :=
  va_put (D := D) (ci := 4) (v := .int v) (ty := .int) (C := RX4) (T := TX4) (N := 9)  X.1.1 X.1.2.1 X.1.2.2.2.2 inX4 tyX4 tyX4_ok nmX4 X.1.2.2.2.1 X.2 hP hD hS 0 rfl rfl 5 (by decide) (X.1.2.2.2.2 _ wd_159) (fun _ h => h) rfl (by decide +kernel) rfl rfl (Nat.le_of_ble_eq_true rfl) hdg (fun H1 locs1 hP1 hD1 hS1 => kk H1 locs1 hP1 hD1 hS1)
theorem gf_X4_64 {p : Program} {l : Launch} {e : Env} {R : Room} {s : State} {m : MethodId} {args : Array Value} {below : List Frame} {meth : Method} {c : Code} {H : Heap} {locs : List Loc} {cells slots : Nat} {Q : State → Prop} {cc : ByteArray} {pc nL : Nat} {ls : Array Slot} {rest : List Value} {D : va_G} {q : Nat → Nat} {ca : Nat → ClassId} {nW nB : Nat} {E : KS} (X : Cx p m c cc nL s args RX4 D (tysK ca)) (hP : va_P D vwCl (cwK q ca nW nB E) H) (hdg : decode cc pc = .ok (.getfield 64, 3)) (kk : W p l e R s m args below meth c H locs cells slots Q (F0 m (pc + 3) ls (.long (kretired E) :: rest))) : W p l e R s m args below meth c H locs cells slots Q (F0 m pc ls (.ref (q 0) :: rest)) :=
  va_get (D := D) (ci := 4)  (C := RX4) (T := TX4) (N := 9)  X.1.1 X.1.2.1 X.1.2.2.2.2 inX4 X.1.2.2.2.1 X.2 hP 0 rfl rfl 7 (by decide) (X.1.2.2.2.2 _ wd_161) (fun _ h => h) rfl hdg kk
theorem pf_X4_64 {p : Program} {l : Launch} {e : Env} {R : Room} {s : State} {m : MethodId} {args : Array Value} {below : List Frame} {meth : Method} {c : Code} {H H0 : Heap} {locs : List Loc} {cells slots : Nat} {Q : State → Prop} {cc : ByteArray} {pc nL : Nat} {ls : Array Slot} {rest : List Value} {D : va_G} {A : Nat → Prop} {q : Nat → Nat} {ca : Nat → ClassId} {nW nB : Nat} {E : KS} (X : Cx p m c cc nL s args RX4 D (tysK ca)) (hP : va_P D vwCl (cwK q ca nW nB E) H) (hD : va_D A (cwK q ca nW nB E)) (hS : va_S A H0 H locs) (v : Int64) (hdg : decode cc pc = .ok (.putfield 64, 3)) (kk : ∀ (H1 : Heap) (locs1 : List Loc), va_P D vwCl (cwK q ca nW nB (kretired_ E v)) H1 → va_D A (cwK q ca nW nB (kretired_ E v)) → va_S A H0 H1 locs1 → W p l e R s m args below meth c H1 locs1 cells slots Q (F0 m (pc + 3) ls rest)) : W p l e R s m args below meth c H locs cells slots Q (F0 m pc ls (.long v :: .ref (q 0) :: rest)) :=
  va_put (D := D) (ci := 4) (v := .long v) (ty := .long) (C := RX4) (T := TX4) (N := 9)  X.1.1 X.1.2.1 X.1.2.2.2.2 inX4 tyX4 tyX4_ok nmX4 X.1.2.2.2.1 X.2 hP hD hS 0 rfl rfl 7 (by decide) (X.1.2.2.2.2 _ wd_161) (fun _ h => h) rfl (by decide +kernel) rfl rfl (Nat.le_of_ble_eq_true rfl) hdg (fun H1 locs1 hP1 hD1 hS1 => kk H1 locs1 hP1 hD1 hS1)
theorem pf_X4_60 {p : Program} {l : Launch} {e : Env} {R : Room} {s : State} {m : MethodId} {args : Array Value} {below : List Frame} {meth : Method} {c : Code} {H H0 : Heap} {locs : List Loc} {cells slots : Nat} {Q : State → Prop} {cc : ByteArray} {pc nL : Nat} {ls : Array Slot} {rest : List Value} {D : va_G} {A : Nat → Prop} {q : Nat → Nat} {ca : Nat → ClassId} {nW nB : Nat} {E : KS} (X : Cx p m c cc nL s args RX4 D (tysK ca)) (hP : va_P D vwCl (cwK q ca nW nB E) H) (hD : va_D A (cwK q ca nW nB E)) (hS : va_S A H0 H locs) (v : Bool) (hdg : decode cc pc = .ok (.putfield 60, 3)) (kk : ∀ (H1 : Heap) (locs1 : List Loc), va_P D vwCl (cwK q ca nW nB (kwaiting_ E v)) H1 → va_D A (cwK q ca nW nB (kwaiting_ E v)) → va_S A H0 H1 locs1 → W p l e R s m args below meth c H1 locs1 cells slots Q (F0 m (pc + 3) ls rest)) : W p l e R s m args below meth c H locs cells slots Q (F0 m pc ls (.int (b2i v) :: .ref (q 0) :: rest)) :=
  va_put (D := D) (ci := 4) (v := .int (b2i v)) (ty := .boolean) (C := RX4) (T := TX4) (N := 9)  X.1.1 X.1.2.1 X.1.2.2.2.2 inX4 tyX4 tyX4_ok nmX4 X.1.2.2.2.1 X.2 hP hD hS 0 rfl rfl 6 (by decide) (X.1.2.2.2.2 _ wd_160) (fun _ h => h) rfl (by decide +kernel) (b2i_nar v) (b2i_fit v) (Nat.le_of_ble_eq_true rfl) hdg (fun H1 locs1 hP1 hD1 hS1 => kk H1 locs1 hP1 hD1 hS1)
theorem gf_X4_60 {p : Program} {l : Launch} {e : Env} {R : Room} {s : State} {m : MethodId} {args : Array Value} {below : List Frame} {meth : Method} {c : Code} {H : Heap} {locs : List Loc} {cells slots : Nat} {Q : State → Prop} {cc : ByteArray} {pc nL : Nat} {ls : Array Slot} {rest : List Value} {D : va_G} {q : Nat → Nat} {ca : Nat → ClassId} {nW nB : Nat} {E : KS} (X : Cx p m c cc nL s args RX4 D (tysK ca)) (hP : va_P D vwCl (cwK q ca nW nB E) H) (hdg : decode cc pc = .ok (.getfield 60, 3)) (kk : W p l e R s m args below meth c H locs cells slots Q (F0 m (pc + 3) ls (.int (b2i (kwaiting E)) :: rest))) : W p l e R s m args below meth c H locs cells slots Q (F0 m pc ls (.ref (q 0) :: rest)) :=
  va_get (D := D) (ci := 4)  (C := RX4) (T := TX4) (N := 9)  X.1.1 X.1.2.1 X.1.2.2.2.2 inX4 X.1.2.2.2.1 X.2 hP 0 rfl rfl 6 (by decide) (X.1.2.2.2.2 _ wd_160) (fun _ h => h) rfl hdg kk
theorem gf_X4_121 {p : Program} {l : Launch} {e : Env} {R : Room} {s : State} {m : MethodId} {args : Array Value} {below : List Frame} {meth : Method} {c : Code} {H : Heap} {locs : List Loc} {cells slots : Nat} {Q : State → Prop} {cc : ByteArray} {pc nL : Nat} {ls : Array Slot} {rest : List Value} {D : va_G} {q : Nat → Nat} {ca : Nat → ClassId} {nW nB : Nat} {E : KS} (X : Cx p m c cc nL s args RX4 D (tysK ca)) (hP : va_P D vwCl (cwK q ca nW nB E) H) (hdg : decode cc pc = .ok (.getfield 121, 3)) (kk : W p l e R s m args below meth c H locs cells slots Q (F0 m (pc + 3) ls (.int (b2i (kon E)) :: rest))) : W p l e R s m args below meth c H locs cells slots Q (F0 m pc ls (.ref (q 6) :: rest)) :=
  va_getN (D := D) (ci := 0)  (C := RX0) (T := TX0) (N := 8)  X.1.1 X.1.2.1 X.1.2.2.2.2 inX0 X.1.2.2.2.1 X.2 hP 6 rfl rfl 0 (by decide) (X.1.2.2.2.2 _ wd_112) (fun _ h => h) rfl hdg kk
theorem pf_X4_68 {p : Program} {l : Launch} {e : Env} {R : Room} {s : State} {m : MethodId} {args : Array Value} {below : List Frame} {meth : Method} {c : Code} {H H0 : Heap} {locs : List Loc} {cells slots : Nat} {Q : State → Prop} {cc : ByteArray} {pc nL : Nat} {ls : Array Slot} {rest : List Value} {D : va_G} {A : Nat → Prop} {q : Nat → Nat} {ca : Nat → ClassId} {nW nB : Nat} {E : KS} (X : Cx p m c cc nL s args RX4 D (tysK ca)) (hP : va_P D vwCl (cwK q ca nW nB E) H) (hD : va_D A (cwK q ca nW nB E)) (hS : va_S A H0 H locs) (v : Int32) (hdg : decode cc pc = .ok (.putfield 68, 3)) (kk : ∀ (H1 : Heap) (locs1 : List Loc), va_P D vwCl (cwK q ca nW nB (klatest_ E v)) H1 → va_D A (cwK q ca nW nB (klatest_ E v)) → va_S A H0 H1 locs1 → W p l e R s m args below meth c H1 locs1 cells slots Q (F0 m (pc + 3) ls rest)) : W p l e R s m args below meth c H locs cells slots Q (F0 m pc ls (.int v :: .ref (q 0) :: rest)) :=
  va_put (D := D) (ci := 4) (v := .int v) (ty := .int) (C := RX4) (T := TX4) (N := 9)  X.1.1 X.1.2.1 X.1.2.2.2.2 inX4 tyX4 tyX4_ok nmX4 X.1.2.2.2.1 X.2 hP hD hS 0 rfl rfl 8 (by decide) (X.1.2.2.2.2 _ wd_162) (fun _ h => h) rfl (by decide +kernel) rfl rfl (Nat.le_of_ble_eq_true rfl) hdg (fun H1 locs1 hP1 hD1 hS1 => kk H1 locs1 hP1 hD1 hS1)
theorem gf_X4_68 {p : Program} {l : Launch} {e : Env} {R : Room} {s : State} {m : MethodId} {args : Array Value} {below : List Frame} {meth : Method} {c : Code} {H : Heap} {locs : List Loc} {cells slots : Nat} {Q : State → Prop} {cc : ByteArray} {pc nL : Nat} {ls : Array Slot} {rest : List Value} {D : va_G} {q : Nat → Nat} {ca : Nat → ClassId} {nW nB : Nat} {E : KS} (X : Cx p m c cc nL s args RX4 D (tysK ca)) (hP : va_P D vwCl (cwK q ca nW nB E) H) (hdg : decode cc pc = .ok (.getfield 68, 3)) (kk : W p l e R s m args below meth c H locs cells slots Q (F0 m (pc + 3) ls (.int (klatest E) :: rest))) : W p l e R s m args below meth c H locs cells slots Q (F0 m pc ls (.ref (q 0) :: rest)) :=
  va_get (D := D) (ci := 4)  (C := RX4) (T := TX4) (N := 9)  X.1.1 X.1.2.1 X.1.2.2.2.2 inX4 X.1.2.2.2.1 X.2 hP 0 rfl rfl 8 (by decide) (X.1.2.2.2.2 _ wd_162) (fun _ h => h) rfl hdg kk
theorem gf_X4_105 {p : Program} {l : Launch} {e : Env} {R : Room} {s : State} {m : MethodId} {args : Array Value} {below : List Frame} {meth : Method} {c : Code} {H : Heap} {locs : List Loc} {cells slots : Nat} {Q : State → Prop} {cc : ByteArray} {pc nL : Nat} {ls : Array Slot} {rest : List Value} {D : va_G} {q : Nat → Nat} {ca : Nat → ClassId} {nW nB : Nat} {E : KS} (X : Cx p m c cc nL s args RX4 D (tysK ca)) (hP : va_P D vwCl (cwK q ca nW nB E) H) (hdg : decode cc pc = .ok (.getfield 105, 3)) (kk : W p l e R s m args below meth c H locs cells slots Q (F0 m (pc + 3) ls (.long (ktime E) :: rest))) : W p l e R s m args below meth c H locs cells slots Q (F0 m pc ls (.ref (q 3) :: rest)) :=
  va_getN (D := D) (ci := 3)  (C := RX3) (T := TX3) (N := 2)  X.1.1 X.1.2.1 X.1.2.2.2.2 inX3 X.1.2.2.2.1 X.2 hP 3 rfl rfl 0 (by decide) (X.1.2.2.2.2 _ wd_82) (fun _ h => h) rfl hdg kk
theorem gf_X4_108 {p : Program} {l : Launch} {e : Env} {R : Room} {s : State} {m : MethodId} {args : Array Value} {below : List Frame} {meth : Method} {c : Code} {H : Heap} {locs : List Loc} {cells slots : Nat} {Q : State → Prop} {cc : ByteArray} {pc nL : Nat} {ls : Array Slot} {rest : List Value} {D : va_G} {q : Nat → Nat} {ca : Nat → ClassId} {nW nB : Nat} {E : KS} (X : Cx p m c cc nL s args RX4 D (tysK ca)) (hP : va_P D vwCl (cwK q ca nW nB E) H) (hdg : decode cc pc = .ok (.getfield 108, 3)) (kk : W p l e R s m args below meth c H locs cells slots Q (F0 m (pc + 3) ls (.long (klimit E) :: rest))) : W p l e R s m args below meth c H locs cells slots Q (F0 m pc ls (.ref (q 3) :: rest)) :=
  va_getN (D := D) (ci := 3)  (C := RX3) (T := TX3) (N := 2)  X.1.1 X.1.2.1 X.1.2.2.2.2 inX3 X.1.2.2.2.1 X.2 hP 3 rfl rfl 1 (by decide) (X.1.2.2.2.2 _ wd_84) (fun _ h => h) rfl hdg kk
theorem gf_X5_58 {p : Program} {l : Launch} {e : Env} {R : Room} {s : State} {m : MethodId} {args : Array Value} {below : List Frame} {meth : Method} {c : Code} {H : Heap} {locs : List Loc} {cells slots : Nat} {Q : State → Prop} {cc : ByteArray} {pc nL : Nat} {ls : Array Slot} {rest : List Value} {D : va_G} {q : Nat → Nat} {ca : Nat → ClassId} {sz mo : Int32} {E : MS} (X : Cx p m c cc nL s args RX5 D (tysM ca)) (hP : va_P D vwCl (cwM q ca sz mo E) H) (hdg : decode cc pc = .ok (.getfield 58, 3)) (kk : W p l e R s m args below meth c H locs cells slots Q (F0 m (pc + 3) ls (.long (mtime E) :: rest))) : W p l e R s m args below meth c H locs cells slots Q (F0 m pc ls (.ref (q 0) :: rest)) :=
  va_get (D := D) (ci := 5)  (C := RX5) (T := TX5) (N := 27)  X.1.1 X.1.2.1 X.1.2.2.2.2 inX5 X.1.2.2.2.1 X.2 hP 0 rfl rfl 13 (by decide) (X.1.2.2.2.2 _ wd_482) (fun _ h => h) rfl hdg kk
theorem gf_X5_64 {p : Program} {l : Launch} {e : Env} {R : Room} {s : State} {m : MethodId} {args : Array Value} {below : List Frame} {meth : Method} {c : Code} {H : Heap} {locs : List Loc} {cells slots : Nat} {Q : State → Prop} {cc : ByteArray} {pc nL : Nat} {ls : Array Slot} {rest : List Value} {D : va_G} {q : Nat → Nat} {ca : Nat → ClassId} {sz mo : Int32} {E : MS} (X : Cx p m c cc nL s args RX5 D (tysM ca)) (hP : va_P D vwCl (cwM q ca sz mo E) H) (hdg : decode cc pc = .ok (.getfield 64, 3)) (kk : W p l e R s m args below meth c H locs cells slots Q (F0 m (pc + 3) ls (.long (mlimit E) :: rest))) : W p l e R s m args below meth c H locs cells slots Q (F0 m pc ls (.ref (q 0) :: rest)) :=
  va_get (D := D) (ci := 5)  (C := RX5) (T := TX5) (N := 27)  X.1.1 X.1.2.1 X.1.2.2.2.2 inX5 X.1.2.2.2.1 X.2 hP 0 rfl rfl 14 (by decide) (X.1.2.2.2.2 _ wd_483) (fun _ h => h) rfl hdg kk
theorem gf_X5_33 {p : Program} {l : Launch} {e : Env} {R : Room} {s : State} {m : MethodId} {args : Array Value} {below : List Frame} {meth : Method} {c : Code} {H : Heap} {locs : List Loc} {cells slots : Nat} {Q : State → Prop} {cc : ByteArray} {pc nL : Nat} {ls : Array Slot} {rest : List Value} {D : va_G} {q : Nat → Nat} {ca : Nat → ClassId} {sz mo : Int32} {E : MS} (X : Cx p m c cc nL s args RX5 D (tysM ca)) (hP : va_P D vwCl (cwM q ca sz mo E) H) (hdg : decode cc pc = .ok (.getfield 33, 3)) (kk : W p l e R s m args below meth c H locs cells slots Q (F0 m (pc + 3) ls (.int (b2i (mmie E)) :: rest))) : W p l e R s m args below meth c H locs cells slots Q (F0 m pc ls (.ref (q 0) :: rest)) :=
  va_get (D := D) (ci := 5)  (C := RX5) (T := TX5) (N := 27)  X.1.1 X.1.2.1 X.1.2.2.2.2 inX5 X.1.2.2.2.1 X.2 hP 0 rfl rfl 5 (by decide) (X.1.2.2.2.2 _ wd_474) (fun _ h => h) rfl hdg kk
theorem gf_X5_37 {p : Program} {l : Launch} {e : Env} {R : Room} {s : State} {m : MethodId} {args : Array Value} {below : List Frame} {meth : Method} {c : Code} {H : Heap} {locs : List Loc} {cells slots : Nat} {Q : State → Prop} {cc : ByteArray} {pc nL : Nat} {ls : Array Slot} {rest : List Value} {D : va_G} {q : Nat → Nat} {ca : Nat → ClassId} {sz mo : Int32} {E : MS} (X : Cx p m c cc nL s args RX5 D (tysM ca)) (hP : va_P D vwCl (cwM q ca sz mo E) H) (hdg : decode cc pc = .ok (.getfield 37, 3)) (kk : W p l e R s m args below meth c H locs cells slots Q (F0 m (pc + 3) ls (.int (b2i (mmpie E)) :: rest))) : W p l e R s m args below meth c H locs cells slots Q (F0 m pc ls (.ref (q 0) :: rest)) :=
  va_get (D := D) (ci := 5)  (C := RX5) (T := TX5) (N := 27)  X.1.1 X.1.2.1 X.1.2.2.2.2 inX5 X.1.2.2.2.1 X.2 hP 0 rfl rfl 6 (by decide) (X.1.2.2.2.2 _ wd_475) (fun _ h => h) rfl hdg kk
theorem gf_X5_40 {p : Program} {l : Launch} {e : Env} {R : Room} {s : State} {m : MethodId} {args : Array Value} {below : List Frame} {meth : Method} {c : Code} {H : Heap} {locs : List Loc} {cells slots : Nat} {Q : State → Prop} {cc : ByteArray} {pc nL : Nat} {ls : Array Slot} {rest : List Value} {D : va_G} {q : Nat → Nat} {ca : Nat → ClassId} {sz mo : Int32} {E : MS} (X : Cx p m c cc nL s args RX5 D (tysM ca)) (hP : va_P D vwCl (cwM q ca sz mo E) H) (hdg : decode cc pc = .ok (.getfield 40, 3)) (kk : W p l e R s m args below meth c H locs cells slots Q (F0 m (pc + 3) ls (.int (mmieBits E) :: rest))) : W p l e R s m args below meth c H locs cells slots Q (F0 m pc ls (.ref (q 0) :: rest)) :=
  va_get (D := D) (ci := 5)  (C := RX5) (T := TX5) (N := 27)  X.1.1 X.1.2.1 X.1.2.2.2.2 inX5 X.1.2.2.2.1 X.2 hP 0 rfl rfl 7 (by decide) (X.1.2.2.2.2 _ wd_476) (fun _ h => h) rfl hdg kk
theorem gf_X5_43 {p : Program} {l : Launch} {e : Env} {R : Room} {s : State} {m : MethodId} {args : Array Value} {below : List Frame} {meth : Method} {c : Code} {H : Heap} {locs : List Loc} {cells slots : Nat} {Q : State → Prop} {cc : ByteArray} {pc nL : Nat} {ls : Array Slot} {rest : List Value} {D : va_G} {q : Nat → Nat} {ca : Nat → ClassId} {sz mo : Int32} {E : MS} (X : Cx p m c cc nL s args RX5 D (tysM ca)) (hP : va_P D vwCl (cwM q ca sz mo E) H) (hdg : decode cc pc = .ok (.getfield 43, 3)) (kk : W p l e R s m args below meth c H locs cells slots Q (F0 m (pc + 3) ls (.int (mmtvec E) :: rest))) : W p l e R s m args below meth c H locs cells slots Q (F0 m pc ls (.ref (q 0) :: rest)) :=
  va_get (D := D) (ci := 5)  (C := RX5) (T := TX5) (N := 27)  X.1.1 X.1.2.1 X.1.2.2.2.2 inX5 X.1.2.2.2.1 X.2 hP 0 rfl rfl 8 (by decide) (X.1.2.2.2.2 _ wd_477) (fun _ h => h) rfl hdg kk
theorem gf_X5_46 {p : Program} {l : Launch} {e : Env} {R : Room} {s : State} {m : MethodId} {args : Array Value} {below : List Frame} {meth : Method} {c : Code} {H : Heap} {locs : List Loc} {cells slots : Nat} {Q : State → Prop} {cc : ByteArray} {pc nL : Nat} {ls : Array Slot} {rest : List Value} {D : va_G} {q : Nat → Nat} {ca : Nat → ClassId} {sz mo : Int32} {E : MS} (X : Cx p m c cc nL s args RX5 D (tysM ca)) (hP : va_P D vwCl (cwM q ca sz mo E) H) (hdg : decode cc pc = .ok (.getfield 46, 3)) (kk : W p l e R s m args below meth c H locs cells slots Q (F0 m (pc + 3) ls (.int (mmscratch E) :: rest))) : W p l e R s m args below meth c H locs cells slots Q (F0 m pc ls (.ref (q 0) :: rest)) :=
  va_get (D := D) (ci := 5)  (C := RX5) (T := TX5) (N := 27)  X.1.1 X.1.2.1 X.1.2.2.2.2 inX5 X.1.2.2.2.1 X.2 hP 0 rfl rfl 9 (by decide) (X.1.2.2.2.2 _ wd_478) (fun _ h => h) rfl hdg kk
theorem gf_X5_49 {p : Program} {l : Launch} {e : Env} {R : Room} {s : State} {m : MethodId} {args : Array Value} {below : List Frame} {meth : Method} {c : Code} {H : Heap} {locs : List Loc} {cells slots : Nat} {Q : State → Prop} {cc : ByteArray} {pc nL : Nat} {ls : Array Slot} {rest : List Value} {D : va_G} {q : Nat → Nat} {ca : Nat → ClassId} {sz mo : Int32} {E : MS} (X : Cx p m c cc nL s args RX5 D (tysM ca)) (hP : va_P D vwCl (cwM q ca sz mo E) H) (hdg : decode cc pc = .ok (.getfield 49, 3)) (kk : W p l e R s m args below meth c H locs cells slots Q (F0 m (pc + 3) ls (.int (mmepc E) :: rest))) : W p l e R s m args below meth c H locs cells slots Q (F0 m pc ls (.ref (q 0) :: rest)) :=
  va_get (D := D) (ci := 5)  (C := RX5) (T := TX5) (N := 27)  X.1.1 X.1.2.1 X.1.2.2.2.2 inX5 X.1.2.2.2.1 X.2 hP 0 rfl rfl 10 (by decide) (X.1.2.2.2.2 _ wd_479) (fun _ h => h) rfl hdg kk
theorem gf_X5_52 {p : Program} {l : Launch} {e : Env} {R : Room} {s : State} {m : MethodId} {args : Array Value} {below : List Frame} {meth : Method} {c : Code} {H : Heap} {locs : List Loc} {cells slots : Nat} {Q : State → Prop} {cc : ByteArray} {pc nL : Nat} {ls : Array Slot} {rest : List Value} {D : va_G} {q : Nat → Nat} {ca : Nat → ClassId} {sz mo : Int32} {E : MS} (X : Cx p m c cc nL s args RX5 D (tysM ca)) (hP : va_P D vwCl (cwM q ca sz mo E) H) (hdg : decode cc pc = .ok (.getfield 52, 3)) (kk : W p l e R s m args below meth c H locs cells slots Q (F0 m (pc + 3) ls (.int (mmcause E) :: rest))) : W p l e R s m args below meth c H locs cells slots Q (F0 m pc ls (.ref (q 0) :: rest)) :=
  va_get (D := D) (ci := 5)  (C := RX5) (T := TX5) (N := 27)  X.1.1 X.1.2.1 X.1.2.2.2.2 inX5 X.1.2.2.2.1 X.2 hP 0 rfl rfl 11 (by decide) (X.1.2.2.2.2 _ wd_480) (fun _ h => h) rfl hdg kk
theorem gf_X5_55 {p : Program} {l : Launch} {e : Env} {R : Room} {s : State} {m : MethodId} {args : Array Value} {below : List Frame} {meth : Method} {c : Code} {H : Heap} {locs : List Loc} {cells slots : Nat} {Q : State → Prop} {cc : ByteArray} {pc nL : Nat} {ls : Array Slot} {rest : List Value} {D : va_G} {q : Nat → Nat} {ca : Nat → ClassId} {sz mo : Int32} {E : MS} (X : Cx p m c cc nL s args RX5 D (tysM ca)) (hP : va_P D vwCl (cwM q ca sz mo E) H) (hdg : decode cc pc = .ok (.getfield 55, 3)) (kk : W p l e R s m args below meth c H locs cells slots Q (F0 m (pc + 3) ls (.int (mmtval E) :: rest))) : W p l e R s m args below meth c H locs cells slots Q (F0 m pc ls (.ref (q 0) :: rest)) :=
  va_get (D := D) (ci := 5)  (C := RX5) (T := TX5) (N := 27)  X.1.1 X.1.2.1 X.1.2.2.2.2 inX5 X.1.2.2.2.1 X.2 hP 0 rfl rfl 12 (by decide) (X.1.2.2.2.2 _ wd_481) (fun _ h => h) rfl hdg kk
theorem gf_X5_20 {p : Program} {l : Launch} {e : Env} {R : Room} {s : State} {m : MethodId} {args : Array Value} {below : List Frame} {meth : Method} {c : Code} {H : Heap} {locs : List Loc} {cells slots : Nat} {Q : State → Prop} {cc : ByteArray} {pc nL : Nat} {ls : Array Slot} {rest : List Value} {D : va_G} {q : Nat → Nat} {ca : Nat → ClassId} {sz mo : Int32} {E : MS} (X : Cx p m c cc nL s args RX5 D (tysM ca)) (hP : va_P D vwCl (cwM q ca sz mo E) H) (hdg : decode cc pc = .ok (.getfield 20, 3)) (kk : W p l e R s m args below meth c H locs cells slots Q (F0 m (pc + 3) ls (.int sz :: rest))) : W p l e R s m args below meth c H locs cells slots Q (F0 m pc ls (.ref (q 0) :: rest)) :=
  va_get (D := D) (ci := 5)  (C := RX5) (T := TX5) (N := 27)  X.1.1 X.1.2.1 X.1.2.2.2.2 inX5 X.1.2.2.2.1 X.2 hP 0 rfl rfl 0 (by decide) (X.1.2.2.2.2 _ wd_469) (fun _ h => h) rfl hdg kk
theorem gf_X5_8 {p : Program} {l : Launch} {e : Env} {R : Room} {s : State} {m : MethodId} {args : Array Value} {below : List Frame} {meth : Method} {c : Code} {H : Heap} {locs : List Loc} {cells slots : Nat} {Q : State → Prop} {cc : ByteArray} {pc nL : Nat} {ls : Array Slot} {rest : List Value} {D : va_G} {q : Nat → Nat} {ca : Nat → ClassId} {sz mo : Int32} {E : MS} (X : Cx p m c cc nL s args RX5 D (tysM ca)) (hP : va_P D vwCl (cwM q ca sz mo E) H) (hdg : decode cc pc = .ok (.getfield 8, 3)) (kk : W p l e R s m args below meth c H locs cells slots Q (F0 m (pc + 3) ls (.ref (q 1) :: rest))) : W p l e R s m args below meth c H locs cells slots Q (F0 m pc ls (.ref (q 0) :: rest)) :=
  va_get (D := D) (ci := 5)  (C := RX5) (T := TX5) (N := 27)  X.1.1 X.1.2.1 X.1.2.2.2.2 inX5 X.1.2.2.2.1 X.2 hP 0 rfl rfl 2 (by decide) (X.1.2.2.2.2 _ wd_471) (fun _ h => h) rfl hdg kk
theorem gf_X5_67 {p : Program} {l : Launch} {e : Env} {R : Room} {s : State} {m : MethodId} {args : Array Value} {below : List Frame} {meth : Method} {c : Code} {H : Heap} {locs : List Loc} {cells slots : Nat} {Q : State → Prop} {cc : ByteArray} {pc nL : Nat} {ls : Array Slot} {rest : List Value} {D : va_G} {q : Nat → Nat} {ca : Nat → ClassId} {sz mo : Int32} {E : MS} (X : Cx p m c cc nL s args RX5 D (tysM ca)) (hP : va_P D vwCl (cwM q ca sz mo E) H) (hdg : decode cc pc = .ok (.getfield 67, 3)) (kk : W p l e R s m args below meth c H locs cells slots Q (F0 m (pc + 3) ls (.int (msentMany E) :: rest))) : W p l e R s m args below meth c H locs cells slots Q (F0 m pc ls (.ref (q 0) :: rest)) :=
  va_get (D := D) (ci := 5)  (C := RX5) (T := TX5) (N := 27)  X.1.1 X.1.2.1 X.1.2.2.2.2 inX5 X.1.2.2.2.1 X.2 hP 0 rfl rfl 16 (by decide) (X.1.2.2.2.2 _ wd_485) (fun _ h => h) rfl hdg kk
theorem gf_X5_17 {p : Program} {l : Launch} {e : Env} {R : Room} {s : State} {m : MethodId} {args : Array Value} {below : List Frame} {meth : Method} {c : Code} {H : Heap} {locs : List Loc} {cells slots : Nat} {Q : State → Prop} {cc : ByteArray} {pc nL : Nat} {ls : Array Slot} {rest : List Value} {D : va_G} {q : Nat → Nat} {ca : Nat → ClassId} {sz mo : Int32} {E : MS} (X : Cx p m c cc nL s args RX5 D (tysM ca)) (hP : va_P D vwCl (cwM q ca sz mo E) H) (hdg : decode cc pc = .ok (.getfield 17, 3)) (kk : W p l e R s m args below meth c H locs cells slots Q (F0 m (pc + 3) ls (.ref (q 3) :: rest))) : W p l e R s m args below meth c H locs cells slots Q (F0 m pc ls (.ref (q 0) :: rest)) :=
  va_get (D := D) (ci := 5)  (C := RX5) (T := TX5) (N := 27)  X.1.1 X.1.2.1 X.1.2.2.2.2 inX5 X.1.2.2.2.1 X.2 hP 0 rfl rfl 15 (by decide) (X.1.2.2.2.2 _ wd_484) (fun _ h => h) rfl hdg kk
theorem gf_X5_30 {p : Program} {l : Launch} {e : Env} {R : Room} {s : State} {m : MethodId} {args : Array Value} {below : List Frame} {meth : Method} {c : Code} {H : Heap} {locs : List Loc} {cells slots : Nat} {Q : State → Prop} {cc : ByteArray} {pc nL : Nat} {ls : Array Slot} {rest : List Value} {D : va_G} {q : Nat → Nat} {ca : Nat → ClassId} {sz mo : Int32} {E : MS} (X : Cx p m c cc nL s args RX5 D (tysM ca)) (hP : va_P D vwCl (cwM q ca sz mo E) H) (hdg : decode cc pc = .ok (.getfield 30, 3)) (kk : W p l e R s m args below meth c H locs cells slots Q (F0 m (pc + 3) ls (.int (mpc E) :: rest))) : W p l e R s m args below meth c H locs cells slots Q (F0 m pc ls (.ref (q 0) :: rest)) :=
  va_get (D := D) (ci := 5)  (C := RX5) (T := TX5) (N := 27)  X.1.1 X.1.2.1 X.1.2.2.2.2 inX5 X.1.2.2.2.1 X.2 hP 0 rfl rfl 4 (by decide) (X.1.2.2.2.2 _ wd_473) (fun _ h => h) rfl hdg kk
theorem gf_X5_14 {p : Program} {l : Launch} {e : Env} {R : Room} {s : State} {m : MethodId} {args : Array Value} {below : List Frame} {meth : Method} {c : Code} {H : Heap} {locs : List Loc} {cells slots : Nat} {Q : State → Prop} {cc : ByteArray} {pc nL : Nat} {ls : Array Slot} {rest : List Value} {D : va_G} {q : Nat → Nat} {ca : Nat → ClassId} {sz mo : Int32} {E : MS} (X : Cx p m c cc nL s args RX5 D (tysM ca)) (hP : va_P D vwCl (cwM q ca sz mo E) H) (hdg : decode cc pc = .ok (.getfield 14, 3)) (kk : W p l e R s m args below meth c H locs cells slots Q (F0 m (pc + 3) ls (.ref (q 2) :: rest))) : W p l e R s m args below meth c H locs cells slots Q (F0 m pc ls (.ref (q 0) :: rest)) :=
  va_get (D := D) (ci := 5)  (C := RX5) (T := TX5) (N := 27)  X.1.1 X.1.2.1 X.1.2.2.2.2 inX5 X.1.2.2.2.1 X.2 hP 0 rfl rfl 3 (by decide) (X.1.2.2.2.2 _ wd_472) (fun _ h => h) rfl hdg kk
theorem pf_X5_49 {p : Program} {l : Launch} {e : Env} {R : Room} {s : State} {m : MethodId} {args : Array Value} {below : List Frame} {meth : Method} {c : Code} {H H0 : Heap} {locs : List Loc} {cells slots : Nat} {Q : State → Prop} {cc : ByteArray} {pc nL : Nat} {ls : Array Slot} {rest : List Value} {D : va_G} {A : Nat → Prop} {q : Nat → Nat} {ca : Nat → ClassId} {sz mo : Int32} {E : MS} (X : Cx p m c cc nL s args RX5 D (tysM ca)) (hP : va_P D vwCl (cwM q ca sz mo E) H) (hD : va_D A (cwM q ca sz mo E)) (hS : va_S A H0 H locs) (v : Int32) (hdg : decode cc pc = .ok (.putfield 49, 3)) (kk : ∀ (H1 : Heap) (locs1 : List Loc), va_P D vwCl (cwM q ca sz mo (mmepc_ E v)) H1 → va_D A (cwM q ca sz mo (mmepc_ E v)) → va_S A H0 H1 locs1 → W p l e R s m args below meth c H1 locs1 cells slots Q (F0 m (pc + 3) ls rest)) : W p l e R s m args below meth c H locs cells slots Q (F0 m pc ls (.int v :: .ref (q 0) :: rest)) :=
  va_put (D := D) (ci := 5) (v := .int v) (ty := .int) (C := RX5) (T := TX5) (N := 27)  X.1.1 X.1.2.1 X.1.2.2.2.2 inX5 tyX5 tyX5_ok nmX5 X.1.2.2.2.1 X.2 hP hD hS 0 rfl rfl 10 (by decide) (X.1.2.2.2.2 _ wd_479) (fun _ h => h) rfl (by decide +kernel) rfl rfl (Nat.le_of_ble_eq_true rfl) hdg (fun H1 locs1 hP1 hD1 hS1 => kk H1 locs1 hP1 hD1 hS1)
theorem pf_X5_52 {p : Program} {l : Launch} {e : Env} {R : Room} {s : State} {m : MethodId} {args : Array Value} {below : List Frame} {meth : Method} {c : Code} {H H0 : Heap} {locs : List Loc} {cells slots : Nat} {Q : State → Prop} {cc : ByteArray} {pc nL : Nat} {ls : Array Slot} {rest : List Value} {D : va_G} {A : Nat → Prop} {q : Nat → Nat} {ca : Nat → ClassId} {sz mo : Int32} {E : MS} (X : Cx p m c cc nL s args RX5 D (tysM ca)) (hP : va_P D vwCl (cwM q ca sz mo E) H) (hD : va_D A (cwM q ca sz mo E)) (hS : va_S A H0 H locs) (v : Int32) (hdg : decode cc pc = .ok (.putfield 52, 3)) (kk : ∀ (H1 : Heap) (locs1 : List Loc), va_P D vwCl (cwM q ca sz mo (mmcause_ E v)) H1 → va_D A (cwM q ca sz mo (mmcause_ E v)) → va_S A H0 H1 locs1 → W p l e R s m args below meth c H1 locs1 cells slots Q (F0 m (pc + 3) ls rest)) : W p l e R s m args below meth c H locs cells slots Q (F0 m pc ls (.int v :: .ref (q 0) :: rest)) :=
  va_put (D := D) (ci := 5) (v := .int v) (ty := .int) (C := RX5) (T := TX5) (N := 27)  X.1.1 X.1.2.1 X.1.2.2.2.2 inX5 tyX5 tyX5_ok nmX5 X.1.2.2.2.1 X.2 hP hD hS 0 rfl rfl 11 (by decide) (X.1.2.2.2.2 _ wd_480) (fun _ h => h) rfl (by decide +kernel) rfl rfl (Nat.le_of_ble_eq_true rfl) hdg (fun H1 locs1 hP1 hD1 hS1 => kk H1 locs1 hP1 hD1 hS1)
theorem pf_X5_55 {p : Program} {l : Launch} {e : Env} {R : Room} {s : State} {m : MethodId} {args : Array Value} {below : List Frame} {meth : Method} {c : Code} {H H0 : Heap} {locs : List Loc} {cells slots : Nat} {Q : State → Prop} {cc : ByteArray} {pc nL : Nat} {ls : Array Slot} {rest : List Value} {D : va_G} {A : Nat → Prop} {q : Nat → Nat} {ca : Nat → ClassId} {sz mo : Int32} {E : MS} (X : Cx p m c cc nL s args RX5 D (tysM ca)) (hP : va_P D vwCl (cwM q ca sz mo E) H) (hD : va_D A (cwM q ca sz mo E)) (hS : va_S A H0 H locs) (v : Int32) (hdg : decode cc pc = .ok (.putfield 55, 3)) (kk : ∀ (H1 : Heap) (locs1 : List Loc), va_P D vwCl (cwM q ca sz mo (mmtval_ E v)) H1 → va_D A (cwM q ca sz mo (mmtval_ E v)) → va_S A H0 H1 locs1 → W p l e R s m args below meth c H1 locs1 cells slots Q (F0 m (pc + 3) ls rest)) : W p l e R s m args below meth c H locs cells slots Q (F0 m pc ls (.int v :: .ref (q 0) :: rest)) :=
  va_put (D := D) (ci := 5) (v := .int v) (ty := .int) (C := RX5) (T := TX5) (N := 27)  X.1.1 X.1.2.1 X.1.2.2.2.2 inX5 tyX5 tyX5_ok nmX5 X.1.2.2.2.1 X.2 hP hD hS 0 rfl rfl 12 (by decide) (X.1.2.2.2.2 _ wd_481) (fun _ h => h) rfl (by decide +kernel) rfl rfl (Nat.le_of_ble_eq_true rfl) hdg (fun H1 locs1 hP1 hD1 hS1 => kk H1 locs1 hP1 hD1 hS1)
theorem pf_X5_37 {p : Program} {l : Launch} {e : Env} {R : Room} {s : State} {m : MethodId} {args : Array Value} {below : List Frame} {meth : Method} {c : Code} {H H0 : Heap} {locs : List Loc} {cells slots : Nat} {Q : State → Prop} {cc : ByteArray} {pc nL : Nat} {ls : Array Slot} {rest : List Value} {D : va_G} {A : Nat → Prop} {q : Nat → Nat} {ca : Nat → ClassId} {sz mo : Int32} {E : MS} (X : Cx p m c cc nL s args RX5 D (tysM ca)) (hP : va_P D vwCl (cwM q ca sz mo E) H) (hD : va_D A (cwM q ca sz mo E)) (hS : va_S A H0 H locs) (v : Bool) (hdg : decode cc pc = .ok (.putfield 37, 3)) (kk : ∀ (H1 : Heap) (locs1 : List Loc), va_P D vwCl (cwM q ca sz mo (mmpie_ E v)) H1 → va_D A (cwM q ca sz mo (mmpie_ E v)) → va_S A H0 H1 locs1 → W p l e R s m args below meth c H1 locs1 cells slots Q (F0 m (pc + 3) ls rest)) : W p l e R s m args below meth c H locs cells slots Q (F0 m pc ls (.int (b2i v) :: .ref (q 0) :: rest)) :=
  va_put (D := D) (ci := 5) (v := .int (b2i v)) (ty := .boolean) (C := RX5) (T := TX5) (N := 27)  X.1.1 X.1.2.1 X.1.2.2.2.2 inX5 tyX5 tyX5_ok nmX5 X.1.2.2.2.1 X.2 hP hD hS 0 rfl rfl 6 (by decide) (X.1.2.2.2.2 _ wd_475) (fun _ h => h) rfl (by decide +kernel) (b2i_nar v) (b2i_fit v) (Nat.le_of_ble_eq_true rfl) hdg (fun H1 locs1 hP1 hD1 hS1 => kk H1 locs1 hP1 hD1 hS1)
theorem pf_X5_33 {p : Program} {l : Launch} {e : Env} {R : Room} {s : State} {m : MethodId} {args : Array Value} {below : List Frame} {meth : Method} {c : Code} {H H0 : Heap} {locs : List Loc} {cells slots : Nat} {Q : State → Prop} {cc : ByteArray} {pc nL : Nat} {ls : Array Slot} {rest : List Value} {D : va_G} {A : Nat → Prop} {q : Nat → Nat} {ca : Nat → ClassId} {sz mo : Int32} {E : MS} (X : Cx p m c cc nL s args RX5 D (tysM ca)) (hP : va_P D vwCl (cwM q ca sz mo E) H) (hD : va_D A (cwM q ca sz mo E)) (hS : va_S A H0 H locs) (v : Bool) (hdg : decode cc pc = .ok (.putfield 33, 3)) (kk : ∀ (H1 : Heap) (locs1 : List Loc), va_P D vwCl (cwM q ca sz mo (mmie_ E v)) H1 → va_D A (cwM q ca sz mo (mmie_ E v)) → va_S A H0 H1 locs1 → W p l e R s m args below meth c H1 locs1 cells slots Q (F0 m (pc + 3) ls rest)) : W p l e R s m args below meth c H locs cells slots Q (F0 m pc ls (.int (b2i v) :: .ref (q 0) :: rest)) :=
  va_put (D := D) (ci := 5) (v := .int (b2i v)) (ty := .boolean) (C := RX5) (T := TX5) (N := 27)  X.1.1 X.1.2.1 X.1.2.2.2.2 inX5 tyX5 tyX5_ok nmX5 X.1.2.2.2.1 X.2 hP hD hS 0 rfl rfl 5 (by decide) (X.1.2.2.2.2 _ wd_474) (fun _ h => h) rfl (by decide +kernel) (b2i_nar v) (b2i_fit v) (Nat.le_of_ble_eq_true rfl) hdg (fun H1 locs1 hP1 hD1 hS1 => kk H1 locs1 hP1 hD1 hS1)
theorem pf_X5_30 {p : Program} {l : Launch} {e : Env} {R : Room} {s : State} {m : MethodId} {args : Array Value} {below : List Frame} {meth : Method} {c : Code} {H H0 : Heap} {locs : List Loc} {cells slots : Nat} {Q : State → Prop} {cc : ByteArray} {pc nL : Nat} {ls : Array Slot} {rest : List Value} {D : va_G} {A : Nat → Prop} {q : Nat → Nat} {ca : Nat → ClassId} {sz mo : Int32} {E : MS} (X : Cx p m c cc nL s args RX5 D (tysM ca)) (hP : va_P D vwCl (cwM q ca sz mo E) H) (hD : va_D A (cwM q ca sz mo E)) (hS : va_S A H0 H locs) (v : Int32) (hdg : decode cc pc = .ok (.putfield 30, 3)) (kk : ∀ (H1 : Heap) (locs1 : List Loc), va_P D vwCl (cwM q ca sz mo (mpc_ E v)) H1 → va_D A (cwM q ca sz mo (mpc_ E v)) → va_S A H0 H1 locs1 → W p l e R s m args below meth c H1 locs1 cells slots Q (F0 m (pc + 3) ls rest)) : W p l e R s m args below meth c H locs cells slots Q (F0 m pc ls (.int v :: .ref (q 0) :: rest)) :=
  va_put (D := D) (ci := 5) (v := .int v) (ty := .int) (C := RX5) (T := TX5) (N := 27)  X.1.1 X.1.2.1 X.1.2.2.2.2 inX5 tyX5 tyX5_ok nmX5 X.1.2.2.2.1 X.2 hP hD hS 0 rfl rfl 4 (by decide) (X.1.2.2.2.2 _ wd_473) (fun _ h => h) rfl (by decide +kernel) rfl rfl (Nat.le_of_ble_eq_true rfl) hdg (fun H1 locs1 hP1 hD1 hS1 => kk H1 locs1 hP1 hD1 hS1)
theorem gf_X5_124 {p : Program} {l : Launch} {e : Env} {R : Room} {s : State} {m : MethodId} {args : Array Value} {below : List Frame} {meth : Method} {c : Code} {H : Heap} {locs : List Loc} {cells slots : Nat} {Q : State → Prop} {cc : ByteArray} {pc nL : Nat} {ls : Array Slot} {rest : List Value} {D : va_G} {q : Nat → Nat} {ca : Nat → ClassId} {sz mo : Int32} {E : MS} (X : Cx p m c cc nL s args RX5 D (tysM ca)) (hP : va_P D vwCl (cwM q ca sz mo E) H) (hdg : decode cc pc = .ok (.getfield 124, 3)) (kk : W p l e R s m args below meth c H locs cells slots Q (F0 m (pc + 3) ls (.int (md E) :: rest))) : W p l e R s m args below meth c H locs cells slots Q (F0 m pc ls (.ref (q 0) :: rest)) :=
  va_get (D := D) (ci := 5)  (C := RX5) (T := TX5) (N := 27)  X.1.1 X.1.2.1 X.1.2.2.2.2 inX5 X.1.2.2.2.1 X.2 hP 0 rfl rfl 21 (by decide) (X.1.2.2.2.2 _ wd_490) (fun _ h => h) rfl hdg kk
theorem pf_X5_139 {p : Program} {l : Launch} {e : Env} {R : Room} {s : State} {m : MethodId} {args : Array Value} {below : List Frame} {meth : Method} {c : Code} {H H0 : Heap} {locs : List Loc} {cells slots : Nat} {Q : State → Prop} {cc : ByteArray} {pc nL : Nat} {ls : Array Slot} {rest : List Value} {D : va_G} {A : Nat → Prop} {q : Nat → Nat} {ca : Nat → ClassId} {sz mo : Int32} {E : MS} (X : Cx p m c cc nL s args RX5 D (tysM ca)) (hP : va_P D vwCl (cwM q ca sz mo E) H) (hD : va_D A (cwM q ca sz mo E)) (hS : va_S A H0 H locs) (v : Int32) (hdg : decode cc pc = .ok (.putfield 139, 3)) (kk : ∀ (H1 : Heap) (locs1 : List Loc), va_P D vwCl (cwM q ca sz mo (mnext_ E v)) H1 → va_D A (cwM q ca sz mo (mnext_ E v)) → va_S A H0 H1 locs1 → W p l e R s m args below meth c H1 locs1 cells slots Q (F0 m (pc + 3) ls rest)) : W p l e R s m args below meth c H locs cells slots Q (F0 m pc ls (.int v :: .ref (q 0) :: rest)) :=
  va_put (D := D) (ci := 5) (v := .int v) (ty := .int) (C := RX5) (T := TX5) (N := 27)  X.1.1 X.1.2.1 X.1.2.2.2.2 inX5 tyX5 tyX5_ok nmX5 X.1.2.2.2.1 X.2 hP hD hS 0 rfl rfl 26 (by decide) (X.1.2.2.2.2 _ wd_495) (fun _ h => h) rfl (by decide +kernel) rfl rfl (Nat.le_of_ble_eq_true rfl) hdg (fun H1 locs1 hP1 hD1 hS1 => kk H1 locs1 hP1 hD1 hS1)
theorem gf_X5_118 {p : Program} {l : Launch} {e : Env} {R : Room} {s : State} {m : MethodId} {args : Array Value} {below : List Frame} {meth : Method} {c : Code} {H : Heap} {locs : List Loc} {cells slots : Nat} {Q : State → Prop} {cc : ByteArray} {pc nL : Nat} {ls : Array Slot} {rest : List Value} {D : va_G} {q : Nat → Nat} {ca : Nat → ClassId} {sz mo : Int32} {E : MS} (X : Cx p m c cc nL s args RX5 D (tysM ca)) (hP : va_P D vwCl (cwM q ca sz mo E) H) (hdg : decode cc pc = .ok (.getfield 118, 3)) (kk : W p l e R s m args below meth c H locs cells slots Q (F0 m (pc + 3) ls (.int (mword E) :: rest))) : W p l e R s m args below meth c H locs cells slots Q (F0 m pc ls (.ref (q 0) :: rest)) :=
  va_get (D := D) (ci := 5)  (C := RX5) (T := TX5) (N := 27)  X.1.1 X.1.2.1 X.1.2.2.2.2 inX5 X.1.2.2.2.1 X.2 hP 0 rfl rfl 20 (by decide) (X.1.2.2.2.2 _ wd_489) (fun _ h => h) rfl hdg kk
theorem gf_X5_130 {p : Program} {l : Launch} {e : Env} {R : Room} {s : State} {m : MethodId} {args : Array Value} {below : List Frame} {meth : Method} {c : Code} {H : Heap} {locs : List Loc} {cells slots : Nat} {Q : State → Prop} {cc : ByteArray} {pc nL : Nat} {ls : Array Slot} {rest : List Value} {D : va_G} {q : Nat → Nat} {ca : Nat → ClassId} {sz mo : Int32} {E : MS} (X : Cx p m c cc nL s args RX5 D (tysM ca)) (hP : va_P D vwCl (cwM q ca sz mo E) H) (hdg : decode cc pc = .ok (.getfield 130, 3)) (kk : W p l e R s m args below meth c H locs cells slots Q (F0 m (pc + 3) ls (.int (ms E) :: rest))) : W p l e R s m args below meth c H locs cells slots Q (F0 m pc ls (.ref (q 0) :: rest)) :=
  va_get (D := D) (ci := 5)  (C := RX5) (T := TX5) (N := 27)  X.1.1 X.1.2.1 X.1.2.2.2.2 inX5 X.1.2.2.2.1 X.2 hP 0 rfl rfl 23 (by decide) (X.1.2.2.2.2 _ wd_492) (fun _ h => h) rfl hdg kk
theorem gf_X5_133 {p : Program} {l : Launch} {e : Env} {R : Room} {s : State} {m : MethodId} {args : Array Value} {below : List Frame} {meth : Method} {c : Code} {H : Heap} {locs : List Loc} {cells slots : Nat} {Q : State → Prop} {cc : ByteArray} {pc nL : Nat} {ls : Array Slot} {rest : List Value} {D : va_G} {q : Nat → Nat} {ca : Nat → ClassId} {sz mo : Int32} {E : MS} (X : Cx p m c cc nL s args RX5 D (tysM ca)) (hP : va_P D vwCl (cwM q ca sz mo E) H) (hdg : decode cc pc = .ok (.getfield 133, 3)) (kk : W p l e R s m args below meth c H locs cells slots Q (F0 m (pc + 3) ls (.int (mt E) :: rest))) : W p l e R s m args below meth c H locs cells slots Q (F0 m pc ls (.ref (q 0) :: rest)) :=
  va_get (D := D) (ci := 5)  (C := RX5) (T := TX5) (N := 27)  X.1.1 X.1.2.1 X.1.2.2.2.2 inX5 X.1.2.2.2.1 X.2 hP 0 rfl rfl 24 (by decide) (X.1.2.2.2.2 _ wd_493) (fun _ h => h) rfl hdg kk
theorem gf_X5_127 {p : Program} {l : Launch} {e : Env} {R : Room} {s : State} {m : MethodId} {args : Array Value} {below : List Frame} {meth : Method} {c : Code} {H : Heap} {locs : List Loc} {cells slots : Nat} {Q : State → Prop} {cc : ByteArray} {pc nL : Nat} {ls : Array Slot} {rest : List Value} {D : va_G} {q : Nat → Nat} {ca : Nat → ClassId} {sz mo : Int32} {E : MS} (X : Cx p m c cc nL s args RX5 D (tysM ca)) (hP : va_P D vwCl (cwM q ca sz mo E) H) (hdg : decode cc pc = .ok (.getfield 127, 3)) (kk : W p l e R s m args below meth c H locs cells slots Q (F0 m (pc + 3) ls (.int (mf E) :: rest))) : W p l e R s m args below meth c H locs cells slots Q (F0 m pc ls (.ref (q 0) :: rest)) :=
  va_get (D := D) (ci := 5)  (C := RX5) (T := TX5) (N := 27)  X.1.1 X.1.2.1 X.1.2.2.2.2 inX5 X.1.2.2.2.1 X.2 hP 0 rfl rfl 22 (by decide) (X.1.2.2.2.2 _ wd_491) (fun _ h => h) rfl hdg kk
theorem pf_X5_40 {p : Program} {l : Launch} {e : Env} {R : Room} {s : State} {m : MethodId} {args : Array Value} {below : List Frame} {meth : Method} {c : Code} {H H0 : Heap} {locs : List Loc} {cells slots : Nat} {Q : State → Prop} {cc : ByteArray} {pc nL : Nat} {ls : Array Slot} {rest : List Value} {D : va_G} {A : Nat → Prop} {q : Nat → Nat} {ca : Nat → ClassId} {sz mo : Int32} {E : MS} (X : Cx p m c cc nL s args RX5 D (tysM ca)) (hP : va_P D vwCl (cwM q ca sz mo E) H) (hD : va_D A (cwM q ca sz mo E)) (hS : va_S A H0 H locs) (v : Int32) (hdg : decode cc pc = .ok (.putfield 40, 3)) (kk : ∀ (H1 : Heap) (locs1 : List Loc), va_P D vwCl (cwM q ca sz mo (mmieBits_ E v)) H1 → va_D A (cwM q ca sz mo (mmieBits_ E v)) → va_S A H0 H1 locs1 → W p l e R s m args below meth c H1 locs1 cells slots Q (F0 m (pc + 3) ls rest)) : W p l e R s m args below meth c H locs cells slots Q (F0 m pc ls (.int v :: .ref (q 0) :: rest)) :=
  va_put (D := D) (ci := 5) (v := .int v) (ty := .int) (C := RX5) (T := TX5) (N := 27)  X.1.1 X.1.2.1 X.1.2.2.2.2 inX5 tyX5 tyX5_ok nmX5 X.1.2.2.2.1 X.2 hP hD hS 0 rfl rfl 7 (by decide) (X.1.2.2.2.2 _ wd_476) (fun _ h => h) rfl (by decide +kernel) rfl rfl (Nat.le_of_ble_eq_true rfl) hdg (fun H1 locs1 hP1 hD1 hS1 => kk H1 locs1 hP1 hD1 hS1)
theorem pf_X5_43 {p : Program} {l : Launch} {e : Env} {R : Room} {s : State} {m : MethodId} {args : Array Value} {below : List Frame} {meth : Method} {c : Code} {H H0 : Heap} {locs : List Loc} {cells slots : Nat} {Q : State → Prop} {cc : ByteArray} {pc nL : Nat} {ls : Array Slot} {rest : List Value} {D : va_G} {A : Nat → Prop} {q : Nat → Nat} {ca : Nat → ClassId} {sz mo : Int32} {E : MS} (X : Cx p m c cc nL s args RX5 D (tysM ca)) (hP : va_P D vwCl (cwM q ca sz mo E) H) (hD : va_D A (cwM q ca sz mo E)) (hS : va_S A H0 H locs) (v : Int32) (hdg : decode cc pc = .ok (.putfield 43, 3)) (kk : ∀ (H1 : Heap) (locs1 : List Loc), va_P D vwCl (cwM q ca sz mo (mmtvec_ E v)) H1 → va_D A (cwM q ca sz mo (mmtvec_ E v)) → va_S A H0 H1 locs1 → W p l e R s m args below meth c H1 locs1 cells slots Q (F0 m (pc + 3) ls rest)) : W p l e R s m args below meth c H locs cells slots Q (F0 m pc ls (.int v :: .ref (q 0) :: rest)) :=
  va_put (D := D) (ci := 5) (v := .int v) (ty := .int) (C := RX5) (T := TX5) (N := 27)  X.1.1 X.1.2.1 X.1.2.2.2.2 inX5 tyX5 tyX5_ok nmX5 X.1.2.2.2.1 X.2 hP hD hS 0 rfl rfl 8 (by decide) (X.1.2.2.2.2 _ wd_477) (fun _ h => h) rfl (by decide +kernel) rfl rfl (Nat.le_of_ble_eq_true rfl) hdg (fun H1 locs1 hP1 hD1 hS1 => kk H1 locs1 hP1 hD1 hS1)
theorem pf_X5_46 {p : Program} {l : Launch} {e : Env} {R : Room} {s : State} {m : MethodId} {args : Array Value} {below : List Frame} {meth : Method} {c : Code} {H H0 : Heap} {locs : List Loc} {cells slots : Nat} {Q : State → Prop} {cc : ByteArray} {pc nL : Nat} {ls : Array Slot} {rest : List Value} {D : va_G} {A : Nat → Prop} {q : Nat → Nat} {ca : Nat → ClassId} {sz mo : Int32} {E : MS} (X : Cx p m c cc nL s args RX5 D (tysM ca)) (hP : va_P D vwCl (cwM q ca sz mo E) H) (hD : va_D A (cwM q ca sz mo E)) (hS : va_S A H0 H locs) (v : Int32) (hdg : decode cc pc = .ok (.putfield 46, 3)) (kk : ∀ (H1 : Heap) (locs1 : List Loc), va_P D vwCl (cwM q ca sz mo (mmscratch_ E v)) H1 → va_D A (cwM q ca sz mo (mmscratch_ E v)) → va_S A H0 H1 locs1 → W p l e R s m args below meth c H1 locs1 cells slots Q (F0 m (pc + 3) ls rest)) : W p l e R s m args below meth c H locs cells slots Q (F0 m pc ls (.int v :: .ref (q 0) :: rest)) :=
  va_put (D := D) (ci := 5) (v := .int v) (ty := .int) (C := RX5) (T := TX5) (N := 27)  X.1.1 X.1.2.1 X.1.2.2.2.2 inX5 tyX5 tyX5_ok nmX5 X.1.2.2.2.1 X.2 hP hD hS 0 rfl rfl 9 (by decide) (X.1.2.2.2.2 _ wd_478) (fun _ h => h) rfl (by decide +kernel) rfl rfl (Nat.le_of_ble_eq_true rfl) hdg (fun H1 locs1 hP1 hD1 hS1 => kk H1 locs1 hP1 hD1 hS1)
theorem gf_X5_24 {p : Program} {l : Launch} {e : Env} {R : Room} {s : State} {m : MethodId} {args : Array Value} {below : List Frame} {meth : Method} {c : Code} {H : Heap} {locs : List Loc} {cells slots : Nat} {Q : State → Prop} {cc : ByteArray} {pc nL : Nat} {ls : Array Slot} {rest : List Value} {D : va_G} {q : Nat → Nat} {ca : Nat → ClassId} {sz mo : Int32} {E : MS} (X : Cx p m c cc nL s args RX5 D (tysM ca)) (hP : va_P D vwCl (cwM q ca sz mo E) H) (hdg : decode cc pc = .ok (.getfield 24, 3)) (kk : W p l e R s m args below meth c H locs cells slots Q (F0 m (pc + 3) ls (.int mo :: rest))) : W p l e R s m args below meth c H locs cells slots Q (F0 m pc ls (.ref (q 0) :: rest)) :=
  va_get (D := D) (ci := 5)  (C := RX5) (T := TX5) (N := 27)  X.1.1 X.1.2.1 X.1.2.2.2.2 inX5 X.1.2.2.2.1 X.2 hP 0 rfl rfl 1 (by decide) (X.1.2.2.2.2 _ wd_470) (fun _ h => h) rfl hdg kk
theorem gf_X5_136 {p : Program} {l : Launch} {e : Env} {R : Room} {s : State} {m : MethodId} {args : Array Value} {below : List Frame} {meth : Method} {c : Code} {H : Heap} {locs : List Loc} {cells slots : Nat} {Q : State → Prop} {cc : ByteArray} {pc nL : Nat} {ls : Array Slot} {rest : List Value} {D : va_G} {q : Nat → Nat} {ca : Nat → ClassId} {sz mo : Int32} {E : MS} (X : Cx p m c cc nL s args RX5 D (tysM ca)) (hP : va_P D vwCl (cwM q ca sz mo E) H) (hdg : decode cc pc = .ok (.getfield 136, 3)) (kk : W p l e R s m args below meth c H locs cells slots Q (F0 m (pc + 3) ls (.int (mg E) :: rest))) : W p l e R s m args below meth c H locs cells slots Q (F0 m pc ls (.ref (q 0) :: rest)) :=
  va_get (D := D) (ci := 5)  (C := RX5) (T := TX5) (N := 27)  X.1.1 X.1.2.1 X.1.2.2.2.2 inX5 X.1.2.2.2.1 X.2 hP 0 rfl rfl 25 (by decide) (X.1.2.2.2.2 _ wd_494) (fun _ h => h) rfl hdg kk
theorem pf_X5_58 {p : Program} {l : Launch} {e : Env} {R : Room} {s : State} {m : MethodId} {args : Array Value} {below : List Frame} {meth : Method} {c : Code} {H H0 : Heap} {locs : List Loc} {cells slots : Nat} {Q : State → Prop} {cc : ByteArray} {pc nL : Nat} {ls : Array Slot} {rest : List Value} {D : va_G} {A : Nat → Prop} {q : Nat → Nat} {ca : Nat → ClassId} {sz mo : Int32} {E : MS} (X : Cx p m c cc nL s args RX5 D (tysM ca)) (hP : va_P D vwCl (cwM q ca sz mo E) H) (hD : va_D A (cwM q ca sz mo E)) (hS : va_S A H0 H locs) (v : Int64) (hdg : decode cc pc = .ok (.putfield 58, 3)) (kk : ∀ (H1 : Heap) (locs1 : List Loc), va_P D vwCl (cwM q ca sz mo (mtime_ E v)) H1 → va_D A (cwM q ca sz mo (mtime_ E v)) → va_S A H0 H1 locs1 → W p l e R s m args below meth c H1 locs1 cells slots Q (F0 m (pc + 3) ls rest)) : W p l e R s m args below meth c H locs cells slots Q (F0 m pc ls (.long v :: .ref (q 0) :: rest)) :=
  va_put (D := D) (ci := 5) (v := .long v) (ty := .long) (C := RX5) (T := TX5) (N := 27)  X.1.1 X.1.2.1 X.1.2.2.2.2 inX5 tyX5 tyX5_ok nmX5 X.1.2.2.2.1 X.2 hP hD hS 0 rfl rfl 13 (by decide) (X.1.2.2.2.2 _ wd_482) (fun _ h => h) rfl (by decide +kernel) rfl rfl (Nat.le_of_ble_eq_true rfl) hdg (fun H1 locs1 hP1 hD1 hS1 => kk H1 locs1 hP1 hD1 hS1)
theorem pf_X5_64 {p : Program} {l : Launch} {e : Env} {R : Room} {s : State} {m : MethodId} {args : Array Value} {below : List Frame} {meth : Method} {c : Code} {H H0 : Heap} {locs : List Loc} {cells slots : Nat} {Q : State → Prop} {cc : ByteArray} {pc nL : Nat} {ls : Array Slot} {rest : List Value} {D : va_G} {A : Nat → Prop} {q : Nat → Nat} {ca : Nat → ClassId} {sz mo : Int32} {E : MS} (X : Cx p m c cc nL s args RX5 D (tysM ca)) (hP : va_P D vwCl (cwM q ca sz mo E) H) (hD : va_D A (cwM q ca sz mo E)) (hS : va_S A H0 H locs) (v : Int64) (hdg : decode cc pc = .ok (.putfield 64, 3)) (kk : ∀ (H1 : Heap) (locs1 : List Loc), va_P D vwCl (cwM q ca sz mo (mlimit_ E v)) H1 → va_D A (cwM q ca sz mo (mlimit_ E v)) → va_S A H0 H1 locs1 → W p l e R s m args below meth c H1 locs1 cells slots Q (F0 m (pc + 3) ls rest)) : W p l e R s m args below meth c H locs cells slots Q (F0 m pc ls (.long v :: .ref (q 0) :: rest)) :=
  va_put (D := D) (ci := 5) (v := .long v) (ty := .long) (C := RX5) (T := TX5) (N := 27)  X.1.1 X.1.2.1 X.1.2.2.2.2 inX5 tyX5 tyX5_ok nmX5 X.1.2.2.2.1 X.2 hP hD hS 0 rfl rfl 14 (by decide) (X.1.2.2.2.2 _ wd_483) (fun _ h => h) rfl (by decide +kernel) rfl rfl (Nat.le_of_ble_eq_true rfl) hdg (fun H1 locs1 hP1 hD1 hS1 => kk H1 locs1 hP1 hD1 hS1)
theorem pf_X5_67 {p : Program} {l : Launch} {e : Env} {R : Room} {s : State} {m : MethodId} {args : Array Value} {below : List Frame} {meth : Method} {c : Code} {H H0 : Heap} {locs : List Loc} {cells slots : Nat} {Q : State → Prop} {cc : ByteArray} {pc nL : Nat} {ls : Array Slot} {rest : List Value} {D : va_G} {A : Nat → Prop} {q : Nat → Nat} {ca : Nat → ClassId} {sz mo : Int32} {E : MS} (X : Cx p m c cc nL s args RX5 D (tysM ca)) (hP : va_P D vwCl (cwM q ca sz mo E) H) (hD : va_D A (cwM q ca sz mo E)) (hS : va_S A H0 H locs) (v : Int32) (hdg : decode cc pc = .ok (.putfield 67, 3)) (kk : ∀ (H1 : Heap) (locs1 : List Loc), va_P D vwCl (cwM q ca sz mo (msentMany_ E v)) H1 → va_D A (cwM q ca sz mo (msentMany_ E v)) → va_S A H0 H1 locs1 → W p l e R s m args below meth c H1 locs1 cells slots Q (F0 m (pc + 3) ls rest)) : W p l e R s m args below meth c H locs cells slots Q (F0 m pc ls (.int v :: .ref (q 0) :: rest)) :=
  va_put (D := D) (ci := 5) (v := .int v) (ty := .int) (C := RX5) (T := TX5) (N := 27)  X.1.1 X.1.2.1 X.1.2.2.2.2 inX5 tyX5 tyX5_ok nmX5 X.1.2.2.2.1 X.2 hP hD hS 0 rfl rfl 16 (by decide) (X.1.2.2.2.2 _ wd_485) (fun _ h => h) rfl (by decide +kernel) rfl rfl (Nat.le_of_ble_eq_true rfl) hdg (fun H1 locs1 hP1 hD1 hS1 => kk H1 locs1 hP1 hD1 hS1)
theorem pf_X5_73 {p : Program} {l : Launch} {e : Env} {R : Room} {s : State} {m : MethodId} {args : Array Value} {below : List Frame} {meth : Method} {c : Code} {H H0 : Heap} {locs : List Loc} {cells slots : Nat} {Q : State → Prop} {cc : ByteArray} {pc nL : Nat} {ls : Array Slot} {rest : List Value} {D : va_G} {A : Nat → Prop} {q : Nat → Nat} {ca : Nat → ClassId} {sz mo : Int32} {E : MS} (X : Cx p m c cc nL s args RX5 D (tysM ca)) (hP : va_P D vwCl (cwM q ca sz mo E) H) (hD : va_D A (cwM q ca sz mo E)) (hS : va_S A H0 H locs) (v : Bool) (hdg : decode cc pc = .ok (.putfield 73, 3)) (kk : ∀ (H1 : Heap) (locs1 : List Loc), va_P D vwCl (cwM q ca sz mo (mwaits_ E v)) H1 → va_D A (cwM q ca sz mo (mwaits_ E v)) → va_S A H0 H1 locs1 → W p l e R s m args below meth c H1 locs1 cells slots Q (F0 m (pc + 3) ls rest)) : W p l e R s m args below meth c H locs cells slots Q (F0 m pc ls (.int (b2i v) :: .ref (q 0) :: rest)) :=
  va_put (D := D) (ci := 5) (v := .int (b2i v)) (ty := .boolean) (C := RX5) (T := TX5) (N := 27)  X.1.1 X.1.2.1 X.1.2.2.2.2 inX5 tyX5 tyX5_ok nmX5 X.1.2.2.2.1 X.2 hP hD hS 0 rfl rfl 18 (by decide) (X.1.2.2.2.2 _ wd_487) (fun _ h => h) rfl (by decide +kernel) (b2i_nar v) (b2i_fit v) (Nat.le_of_ble_eq_true rfl) hdg (fun H1 locs1 hP1 hD1 hS1 => kk H1 locs1 hP1 hD1 hS1)
theorem pf_X5_118 {p : Program} {l : Launch} {e : Env} {R : Room} {s : State} {m : MethodId} {args : Array Value} {below : List Frame} {meth : Method} {c : Code} {H H0 : Heap} {locs : List Loc} {cells slots : Nat} {Q : State → Prop} {cc : ByteArray} {pc nL : Nat} {ls : Array Slot} {rest : List Value} {D : va_G} {A : Nat → Prop} {q : Nat → Nat} {ca : Nat → ClassId} {sz mo : Int32} {E : MS} (X : Cx p m c cc nL s args RX5 D (tysM ca)) (hP : va_P D vwCl (cwM q ca sz mo E) H) (hD : va_D A (cwM q ca sz mo E)) (hS : va_S A H0 H locs) (v : Int32) (hdg : decode cc pc = .ok (.putfield 118, 3)) (kk : ∀ (H1 : Heap) (locs1 : List Loc), va_P D vwCl (cwM q ca sz mo (mword_ E v)) H1 → va_D A (cwM q ca sz mo (mword_ E v)) → va_S A H0 H1 locs1 → W p l e R s m args below meth c H1 locs1 cells slots Q (F0 m (pc + 3) ls rest)) : W p l e R s m args below meth c H locs cells slots Q (F0 m pc ls (.int v :: .ref (q 0) :: rest)) :=
  va_put (D := D) (ci := 5) (v := .int v) (ty := .int) (C := RX5) (T := TX5) (N := 27)  X.1.1 X.1.2.1 X.1.2.2.2.2 inX5 tyX5 tyX5_ok nmX5 X.1.2.2.2.1 X.2 hP hD hS 0 rfl rfl 20 (by decide) (X.1.2.2.2.2 _ wd_489) (fun _ h => h) rfl (by decide +kernel) rfl rfl (Nat.le_of_ble_eq_true rfl) hdg (fun H1 locs1 hP1 hD1 hS1 => kk H1 locs1 hP1 hD1 hS1)
theorem pf_X5_124 {p : Program} {l : Launch} {e : Env} {R : Room} {s : State} {m : MethodId} {args : Array Value} {below : List Frame} {meth : Method} {c : Code} {H H0 : Heap} {locs : List Loc} {cells slots : Nat} {Q : State → Prop} {cc : ByteArray} {pc nL : Nat} {ls : Array Slot} {rest : List Value} {D : va_G} {A : Nat → Prop} {q : Nat → Nat} {ca : Nat → ClassId} {sz mo : Int32} {E : MS} (X : Cx p m c cc nL s args RX5 D (tysM ca)) (hP : va_P D vwCl (cwM q ca sz mo E) H) (hD : va_D A (cwM q ca sz mo E)) (hS : va_S A H0 H locs) (v : Int32) (hdg : decode cc pc = .ok (.putfield 124, 3)) (kk : ∀ (H1 : Heap) (locs1 : List Loc), va_P D vwCl (cwM q ca sz mo (md_ E v)) H1 → va_D A (cwM q ca sz mo (md_ E v)) → va_S A H0 H1 locs1 → W p l e R s m args below meth c H1 locs1 cells slots Q (F0 m (pc + 3) ls rest)) : W p l e R s m args below meth c H locs cells slots Q (F0 m pc ls (.int v :: .ref (q 0) :: rest)) :=
  va_put (D := D) (ci := 5) (v := .int v) (ty := .int) (C := RX5) (T := TX5) (N := 27)  X.1.1 X.1.2.1 X.1.2.2.2.2 inX5 tyX5 tyX5_ok nmX5 X.1.2.2.2.1 X.2 hP hD hS 0 rfl rfl 21 (by decide) (X.1.2.2.2.2 _ wd_490) (fun _ h => h) rfl (by decide +kernel) rfl rfl (Nat.le_of_ble_eq_true rfl) hdg (fun H1 locs1 hP1 hD1 hS1 => kk H1 locs1 hP1 hD1 hS1)
theorem pf_X5_127 {p : Program} {l : Launch} {e : Env} {R : Room} {s : State} {m : MethodId} {args : Array Value} {below : List Frame} {meth : Method} {c : Code} {H H0 : Heap} {locs : List Loc} {cells slots : Nat} {Q : State → Prop} {cc : ByteArray} {pc nL : Nat} {ls : Array Slot} {rest : List Value} {D : va_G} {A : Nat → Prop} {q : Nat → Nat} {ca : Nat → ClassId} {sz mo : Int32} {E : MS} (X : Cx p m c cc nL s args RX5 D (tysM ca)) (hP : va_P D vwCl (cwM q ca sz mo E) H) (hD : va_D A (cwM q ca sz mo E)) (hS : va_S A H0 H locs) (v : Int32) (hdg : decode cc pc = .ok (.putfield 127, 3)) (kk : ∀ (H1 : Heap) (locs1 : List Loc), va_P D vwCl (cwM q ca sz mo (mf_ E v)) H1 → va_D A (cwM q ca sz mo (mf_ E v)) → va_S A H0 H1 locs1 → W p l e R s m args below meth c H1 locs1 cells slots Q (F0 m (pc + 3) ls rest)) : W p l e R s m args below meth c H locs cells slots Q (F0 m pc ls (.int v :: .ref (q 0) :: rest)) :=
  va_put (D := D) (ci := 5) (v := .int v) (ty := .int) (C := RX5) (T := TX5) (N := 27)  X.1.1 X.1.2.1 X.1.2.2.2.2 inX5 tyX5 tyX5_ok nmX5 X.1.2.2.2.1 X.2 hP hD hS 0 rfl rfl 22 (by decide) (X.1.2.2.2.2 _ wd_491) (fun _ h => h) rfl (by decide +kernel) rfl rfl (Nat.le_of_ble_eq_true rfl) hdg (fun H1 locs1 hP1 hD1 hS1 => kk H1 locs1 hP1 hD1 hS1)
theorem pf_X5_130 {p : Program} {l : Launch} {e : Env} {R : Room} {s : State} {m : MethodId} {args : Array Value} {below : List Frame} {meth : Method} {c : Code} {H H0 : Heap} {locs : List Loc} {cells slots : Nat} {Q : State → Prop} {cc : ByteArray} {pc nL : Nat} {ls : Array Slot} {rest : List Value} {D : va_G} {A : Nat → Prop} {q : Nat → Nat} {ca : Nat → ClassId} {sz mo : Int32} {E : MS} (X : Cx p m c cc nL s args RX5 D (tysM ca)) (hP : va_P D vwCl (cwM q ca sz mo E) H) (hD : va_D A (cwM q ca sz mo E)) (hS : va_S A H0 H locs) (v : Int32) (hdg : decode cc pc = .ok (.putfield 130, 3)) (kk : ∀ (H1 : Heap) (locs1 : List Loc), va_P D vwCl (cwM q ca sz mo (ms_ E v)) H1 → va_D A (cwM q ca sz mo (ms_ E v)) → va_S A H0 H1 locs1 → W p l e R s m args below meth c H1 locs1 cells slots Q (F0 m (pc + 3) ls rest)) : W p l e R s m args below meth c H locs cells slots Q (F0 m pc ls (.int v :: .ref (q 0) :: rest)) :=
  va_put (D := D) (ci := 5) (v := .int v) (ty := .int) (C := RX5) (T := TX5) (N := 27)  X.1.1 X.1.2.1 X.1.2.2.2.2 inX5 tyX5 tyX5_ok nmX5 X.1.2.2.2.1 X.2 hP hD hS 0 rfl rfl 23 (by decide) (X.1.2.2.2.2 _ wd_492) (fun _ h => h) rfl (by decide +kernel) rfl rfl (Nat.le_of_ble_eq_true rfl) hdg (fun H1 locs1 hP1 hD1 hS1 => kk H1 locs1 hP1 hD1 hS1)
theorem pf_X5_133 {p : Program} {l : Launch} {e : Env} {R : Room} {s : State} {m : MethodId} {args : Array Value} {below : List Frame} {meth : Method} {c : Code} {H H0 : Heap} {locs : List Loc} {cells slots : Nat} {Q : State → Prop} {cc : ByteArray} {pc nL : Nat} {ls : Array Slot} {rest : List Value} {D : va_G} {A : Nat → Prop} {q : Nat → Nat} {ca : Nat → ClassId} {sz mo : Int32} {E : MS} (X : Cx p m c cc nL s args RX5 D (tysM ca)) (hP : va_P D vwCl (cwM q ca sz mo E) H) (hD : va_D A (cwM q ca sz mo E)) (hS : va_S A H0 H locs) (v : Int32) (hdg : decode cc pc = .ok (.putfield 133, 3)) (kk : ∀ (H1 : Heap) (locs1 : List Loc), va_P D vwCl (cwM q ca sz mo (mt_ E v)) H1 → va_D A (cwM q ca sz mo (mt_ E v)) → va_S A H0 H1 locs1 → W p l e R s m args below meth c H1 locs1 cells slots Q (F0 m (pc + 3) ls rest)) : W p l e R s m args below meth c H locs cells slots Q (F0 m pc ls (.int v :: .ref (q 0) :: rest)) :=
  va_put (D := D) (ci := 5) (v := .int v) (ty := .int) (C := RX5) (T := TX5) (N := 27)  X.1.1 X.1.2.1 X.1.2.2.2.2 inX5 tyX5 tyX5_ok nmX5 X.1.2.2.2.1 X.2 hP hD hS 0 rfl rfl 24 (by decide) (X.1.2.2.2.2 _ wd_493) (fun _ h => h) rfl (by decide +kernel) rfl rfl (Nat.le_of_ble_eq_true rfl) hdg (fun H1 locs1 hP1 hD1 hS1 => kk H1 locs1 hP1 hD1 hS1)
theorem pf_X5_136 {p : Program} {l : Launch} {e : Env} {R : Room} {s : State} {m : MethodId} {args : Array Value} {below : List Frame} {meth : Method} {c : Code} {H H0 : Heap} {locs : List Loc} {cells slots : Nat} {Q : State → Prop} {cc : ByteArray} {pc nL : Nat} {ls : Array Slot} {rest : List Value} {D : va_G} {A : Nat → Prop} {q : Nat → Nat} {ca : Nat → ClassId} {sz mo : Int32} {E : MS} (X : Cx p m c cc nL s args RX5 D (tysM ca)) (hP : va_P D vwCl (cwM q ca sz mo E) H) (hD : va_D A (cwM q ca sz mo E)) (hS : va_S A H0 H locs) (v : Int32) (hdg : decode cc pc = .ok (.putfield 136, 3)) (kk : ∀ (H1 : Heap) (locs1 : List Loc), va_P D vwCl (cwM q ca sz mo (mg_ E v)) H1 → va_D A (cwM q ca sz mo (mg_ E v)) → va_S A H0 H1 locs1 → W p l e R s m args below meth c H1 locs1 cells slots Q (F0 m (pc + 3) ls rest)) : W p l e R s m args below meth c H locs cells slots Q (F0 m pc ls (.int v :: .ref (q 0) :: rest)) :=
  va_put (D := D) (ci := 5) (v := .int v) (ty := .int) (C := RX5) (T := TX5) (N := 27)  X.1.1 X.1.2.1 X.1.2.2.2.2 inX5 tyX5 tyX5_ok nmX5 X.1.2.2.2.1 X.2 hP hD hS 0 rfl rfl 25 (by decide) (X.1.2.2.2.2 _ wd_494) (fun _ h => h) rfl (by decide +kernel) rfl rfl (Nat.le_of_ble_eq_true rfl) hdg (fun H1 locs1 hP1 hD1 hS1 => kk H1 locs1 hP1 hD1 hS1)
theorem gf_X5_139 {p : Program} {l : Launch} {e : Env} {R : Room} {s : State} {m : MethodId} {args : Array Value} {below : List Frame} {meth : Method} {c : Code} {H : Heap} {locs : List Loc} {cells slots : Nat} {Q : State → Prop} {cc : ByteArray} {pc nL : Nat} {ls : Array Slot} {rest : List Value} {D : va_G} {q : Nat → Nat} {ca : Nat → ClassId} {sz mo : Int32} {E : MS} (X : Cx p m c cc nL s args RX5 D (tysM ca)) (hP : va_P D vwCl (cwM q ca sz mo E) H) (hdg : decode cc pc = .ok (.getfield 139, 3)) (kk : W p l e R s m args below meth c H locs cells slots Q (F0 m (pc + 3) ls (.int (mnext E) :: rest))) : W p l e R s m args below meth c H locs cells slots Q (F0 m pc ls (.ref (q 0) :: rest)) :=
  va_get (D := D) (ci := 5)  (C := RX5) (T := TX5) (N := 27)  X.1.1 X.1.2.1 X.1.2.2.2.2 inX5 X.1.2.2.2.1 X.2 hP 0 rfl rfl 26 (by decide) (X.1.2.2.2.2 _ wd_495) (fun _ h => h) rfl hdg kk
theorem gf_X5_73 {p : Program} {l : Launch} {e : Env} {R : Room} {s : State} {m : MethodId} {args : Array Value} {below : List Frame} {meth : Method} {c : Code} {H : Heap} {locs : List Loc} {cells slots : Nat} {Q : State → Prop} {cc : ByteArray} {pc nL : Nat} {ls : Array Slot} {rest : List Value} {D : va_G} {q : Nat → Nat} {ca : Nat → ClassId} {sz mo : Int32} {E : MS} (X : Cx p m c cc nL s args RX5 D (tysM ca)) (hP : va_P D vwCl (cwM q ca sz mo E) H) (hdg : decode cc pc = .ok (.getfield 73, 3)) (kk : W p l e R s m args below meth c H locs cells slots Q (F0 m (pc + 3) ls (.int (b2i (mwaits E)) :: rest))) : W p l e R s m args below meth c H locs cells slots Q (F0 m pc ls (.ref (q 0) :: rest)) :=
  va_get (D := D) (ci := 5)  (C := RX5) (T := TX5) (N := 27)  X.1.1 X.1.2.1 X.1.2.2.2.2 inX5 X.1.2.2.2.1 X.2 hP 0 rfl rfl 18 (by decide) (X.1.2.2.2.2 _ wd_487) (fun _ h => h) rfl hdg kk
theorem pf_X5_76 {p : Program} {l : Launch} {e : Env} {R : Room} {s : State} {m : MethodId} {args : Array Value} {below : List Frame} {meth : Method} {c : Code} {H H0 : Heap} {locs : List Loc} {cells slots : Nat} {Q : State → Prop} {cc : ByteArray} {pc nL : Nat} {ls : Array Slot} {rest : List Value} {D : va_G} {A : Nat → Prop} {q : Nat → Nat} {ca : Nat → ClassId} {sz mo : Int32} {E : MS} (X : Cx p m c cc nL s args RX5 D (tysM ca)) (hP : va_P D vwCl (cwM q ca sz mo E) H) (hD : va_D A (cwM q ca sz mo E)) (hS : va_S A H0 H locs) (v : Int32) (hdg : decode cc pc = .ok (.putfield 76, 3)) (kk : ∀ (H1 : Heap) (locs1 : List Loc), va_P D vwCl (cwM q ca sz mo (mlatest_ E v)) H1 → va_D A (cwM q ca sz mo (mlatest_ E v)) → va_S A H0 H1 locs1 → W p l e R s m args below meth c H1 locs1 cells slots Q (F0 m (pc + 3) ls rest)) : W p l e R s m args below meth c H locs cells slots Q (F0 m pc ls (.int v :: .ref (q 0) :: rest)) :=
  va_put (D := D) (ci := 5) (v := .int v) (ty := .int) (C := RX5) (T := TX5) (N := 27)  X.1.1 X.1.2.1 X.1.2.2.2.2 inX5 tyX5 tyX5_ok nmX5 X.1.2.2.2.1 X.2 hP hD hS 0 rfl rfl 19 (by decide) (X.1.2.2.2.2 _ wd_488) (fun _ h => h) rfl (by decide +kernel) rfl rfl (Nat.le_of_ble_eq_true rfl) hdg (fun H1 locs1 hP1 hD1 hS1 => kk H1 locs1 hP1 hD1 hS1)
theorem gf_X5_76 {p : Program} {l : Launch} {e : Env} {R : Room} {s : State} {m : MethodId} {args : Array Value} {below : List Frame} {meth : Method} {c : Code} {H : Heap} {locs : List Loc} {cells slots : Nat} {Q : State → Prop} {cc : ByteArray} {pc nL : Nat} {ls : Array Slot} {rest : List Value} {D : va_G} {q : Nat → Nat} {ca : Nat → ClassId} {sz mo : Int32} {E : MS} (X : Cx p m c cc nL s args RX5 D (tysM ca)) (hP : va_P D vwCl (cwM q ca sz mo E) H) (hdg : decode cc pc = .ok (.getfield 76, 3)) (kk : W p l e R s m args below meth c H locs cells slots Q (F0 m (pc + 3) ls (.int (mlatest E) :: rest))) : W p l e R s m args below meth c H locs cells slots Q (F0 m pc ls (.ref (q 0) :: rest)) :=
  va_get (D := D) (ci := 5)  (C := RX5) (T := TX5) (N := 27)  X.1.1 X.1.2.1 X.1.2.2.2.2 inX5 X.1.2.2.2.1 X.2 hP 0 rfl rfl 19 (by decide) (X.1.2.2.2.2 _ wd_488) (fun _ h => h) rfl hdg kk
theorem gf_X5_70 {p : Program} {l : Launch} {e : Env} {R : Room} {s : State} {m : MethodId} {args : Array Value} {below : List Frame} {meth : Method} {c : Code} {H : Heap} {locs : List Loc} {cells slots : Nat} {Q : State → Prop} {cc : ByteArray} {pc nL : Nat} {ls : Array Slot} {rest : List Value} {D : va_G} {q : Nat → Nat} {ca : Nat → ClassId} {sz mo : Int32} {E : MS} (X : Cx p m c cc nL s args RX5 D (tysM ca)) (hP : va_P D vwCl (cwM q ca sz mo E) H) (hdg : decode cc pc = .ok (.getfield 70, 3)) (kk : W p l e R s m args below meth c H locs cells slots Q (F0 m (pc + 3) ls (.long (mretired E) :: rest))) : W p l e R s m args below meth c H locs cells slots Q (F0 m pc ls (.ref (q 0) :: rest)) :=
  va_get (D := D) (ci := 5)  (C := RX5) (T := TX5) (N := 27)  X.1.1 X.1.2.1 X.1.2.2.2.2 inX5 X.1.2.2.2.1 X.2 hP 0 rfl rfl 17 (by decide) (X.1.2.2.2.2 _ wd_486) (fun _ h => h) rfl hdg kk
theorem pf_X5_70 {p : Program} {l : Launch} {e : Env} {R : Room} {s : State} {m : MethodId} {args : Array Value} {below : List Frame} {meth : Method} {c : Code} {H H0 : Heap} {locs : List Loc} {cells slots : Nat} {Q : State → Prop} {cc : ByteArray} {pc nL : Nat} {ls : Array Slot} {rest : List Value} {D : va_G} {A : Nat → Prop} {q : Nat → Nat} {ca : Nat → ClassId} {sz mo : Int32} {E : MS} (X : Cx p m c cc nL s args RX5 D (tysM ca)) (hP : va_P D vwCl (cwM q ca sz mo E) H) (hD : va_D A (cwM q ca sz mo E)) (hS : va_S A H0 H locs) (v : Int64) (hdg : decode cc pc = .ok (.putfield 70, 3)) (kk : ∀ (H1 : Heap) (locs1 : List Loc), va_P D vwCl (cwM q ca sz mo (mretired_ E v)) H1 → va_D A (cwM q ca sz mo (mretired_ E v)) → va_S A H0 H1 locs1 → W p l e R s m args below meth c H1 locs1 cells slots Q (F0 m (pc + 3) ls rest)) : W p l e R s m args below meth c H locs cells slots Q (F0 m pc ls (.long v :: .ref (q 0) :: rest)) :=
  va_put (D := D) (ci := 5) (v := .long v) (ty := .long) (C := RX5) (T := TX5) (N := 27)  X.1.1 X.1.2.1 X.1.2.2.2.2 inX5 tyX5 tyX5_ok nmX5 X.1.2.2.2.1 X.2 hP hD hS 0 rfl rfl 17 (by decide) (X.1.2.2.2.2 _ wd_486) (fun _ h => h) rfl (by decide +kernel) rfl rfl (Nat.le_of_ble_eq_true rfl) hdg (fun H1 locs1 hP1 hD1 hS1 => kk H1 locs1 hP1 hD1 hS1)
theorem klen_2 {p : Program} {l : Launch} {e : Env} {R : Room} {s : State} {m : MethodId} {args : Array Value} {below : List Frame} {meth : Method} {c : Code} {H : Heap} {locs : List Loc} {cells slots : Nat} {Q : State → Prop} {cc : ByteArray} {pc nL : Nat} {ls : Array Slot} {rest : List Value} {D : va_G} {q : Nat → Nat} {ca : Nat → ClassId} {nW nB : Nat} {E : KS} {own : String} (X : Cx p m c cc nL s args own D (tysK ca)) (hP : va_P D vwCl (cwK q ca nW nB E) H) (hdg : decode cc pc = .ok (.arraylength, 1)) (kk : W p l e R s m args below meth c H locs cells slots Q (F0 m (pc + 1) ls (.int (nI nW) :: rest))) : W p l e R s m args below meth c H locs cells slots Q (F0 m pc ls (.ref (q 2) :: rest)) :=
  va_alen X.1.1 X.1.2.1 X.2 hP 2 0 rfl rfl rfl hdg kk
theorem kld_2 {p : Program} {l : Launch} {e : Env} {R : Room} {s : State} {m : MethodId} {args : Array Value} {below : List Frame} {meth : Method} {c : Code} {H : Heap} {locs : List Loc} {cells slots : Nat} {Q : State → Prop} {cc : ByteArray} {pc nL : Nat} {ls : Array Slot} {rest : List Value} {D : va_G} {q : Nat → Nat} {ca : Nat → ClassId} {nW nB : Nat} {E : KS} {own : String} (X : Cx p m c cc nL s args own D (tysK ca)) (hP : va_P D vwCl (cwK q ca nW nB E) H) {i : Int32} (hin : vp_in i nW) (hdg : decode cc pc = .ok (.iaload, 1)) (kk : W p l e R s m args below meth c H locs cells slots Q (F0 m (pc + 1) ls (.int (kwords E i.toNatClampNeg) :: rest))) : W p l e R s m args below meth c H locs cells slots Q (F0 m pc ls (.int i :: .ref (q 2) :: rest)) :=
  va_iald X.1.1 X.1.2.1 X.2 hP 2 0 rfl rfl hin hdg kk
theorem kst_2 {p : Program} {l : Launch} {e : Env} {R : Room} {s : State} {m : MethodId} {args : Array Value} {below : List Frame} {meth : Method} {c : Code} {H H0 : Heap} {locs : List Loc} {cells slots : Nat} {Q : State → Prop} {cc : ByteArray} {pc nL : Nat} {ls : Array Slot} {rest : List Value} {D : va_G} {A : Nat → Prop} {q : Nat → Nat} {ca : Nat → ClassId} {nW nB : Nat} {E : KS} {own : String} (X : Cx p m c cc nL s args own D (tysK ca)) (hP : va_P D vwCl (cwK q ca nW nB E) H) (hD : va_D A (cwK q ca nW nB E)) (hS : va_S A H0 H locs) {i v : Int32} (hin : vp_in i nW) (hdg : decode cc pc = .ok (.iastore, 1)) (kk : ∀ (H1 : Heap) (locs1 : List Loc), va_P D vwCl (cwK q ca nW nB (kwords_ E (upd (kwords E) i.toNatClampNeg v))) H1 → va_D A (cwK q ca nW nB (kwords_ E (upd (kwords E) i.toNatClampNeg v))) → va_S A H0 H1 locs1 → W p l e R s m args below meth c H1 locs1 cells slots Q (F0 m (pc + 1) ls rest)) : W p l e R s m args below meth c H locs cells slots Q (F0 m pc ls (.int v :: .int i :: .ref (q 2) :: rest)) :=
  va_iast X.1.1 X.1.2.1 X.2 hP hD hS 2 0 rfl rfl hin hdg (fun H1 locs1 hP1 hD1 hS1 => kk H1 locs1 hP1 hD1 hS1)
theorem klen_5 {p : Program} {l : Launch} {e : Env} {R : Room} {s : State} {m : MethodId} {args : Array Value} {below : List Frame} {meth : Method} {c : Code} {H : Heap} {locs : List Loc} {cells slots : Nat} {Q : State → Prop} {cc : ByteArray} {pc nL : Nat} {ls : Array Slot} {rest : List Value} {D : va_G} {q : Nat → Nat} {ca : Nat → ClassId} {nW nB : Nat} {E : KS} {own : String} (X : Cx p m c cc nL s args own D (tysK ca)) (hP : va_P D vwCl (cwK q ca nW nB E) H) (hdg : decode cc pc = .ok (.arraylength, 1)) (kk : W p l e R s m args below meth c H locs cells slots Q (F0 m (pc + 1) ls (.int (nI nB) :: rest))) : W p l e R s m args below meth c H locs cells slots Q (F0 m pc ls (.ref (q 5) :: rest)) :=
  va_alen X.1.1 X.1.2.1 X.2 hP 5 1 rfl rfl rfl hdg kk
theorem kld_5 {p : Program} {l : Launch} {e : Env} {R : Room} {s : State} {m : MethodId} {args : Array Value} {below : List Frame} {meth : Method} {c : Code} {H : Heap} {locs : List Loc} {cells slots : Nat} {Q : State → Prop} {cc : ByteArray} {pc nL : Nat} {ls : Array Slot} {rest : List Value} {D : va_G} {q : Nat → Nat} {ca : Nat → ClassId} {nW nB : Nat} {E : KS} {own : String} (X : Cx p m c cc nL s args own D (tysK ca)) (hP : va_P D vwCl (cwK q ca nW nB E) H) {i : Int32} (hin : vp_in i nB) (hdg : decode cc pc = .ok (.baload, 1)) (kk : W p l e R s m args below meth c H locs cells slots Q (F0 m (pc + 1) ls (.int (kbytes E i.toNatClampNeg) :: rest))) : W p l e R s m args below meth c H locs cells slots Q (F0 m pc ls (.int i :: .ref (q 5) :: rest)) :=
  va_bald X.1.1 X.1.2.1 X.2 hP 5 1 rfl rfl hin hdg kk
theorem kld_7 {p : Program} {l : Launch} {e : Env} {R : Room} {s : State} {m : MethodId} {args : Array Value} {below : List Frame} {meth : Method} {c : Code} {H : Heap} {locs : List Loc} {cells slots : Nat} {Q : State → Prop} {cc : ByteArray} {pc nL : Nat} {ls : Array Slot} {rest : List Value} {D : va_G} {q : Nat → Nat} {ca : Nat → ClassId} {nW nB : Nat} {E : KS} {own : String} (X : Cx p m c cc nL s args own D (tysK ca)) (hP : va_P D vwCl (cwK q ca nW nB E) H) {i : Int32} (hin : vp_in i 32) (hdg : decode cc pc = .ok (.iaload, 1)) (kk : W p l e R s m args below meth c H locs cells slots Q (F0 m (pc + 1) ls (.int (kx E i.toNatClampNeg) :: rest))) : W p l e R s m args below meth c H locs cells slots Q (F0 m pc ls (.int i :: .ref (q 7) :: rest)) :=
  va_iald X.1.1 X.1.2.1 X.2 hP 7 2 rfl rfl hin hdg kk
theorem kst_7 {p : Program} {l : Launch} {e : Env} {R : Room} {s : State} {m : MethodId} {args : Array Value} {below : List Frame} {meth : Method} {c : Code} {H H0 : Heap} {locs : List Loc} {cells slots : Nat} {Q : State → Prop} {cc : ByteArray} {pc nL : Nat} {ls : Array Slot} {rest : List Value} {D : va_G} {A : Nat → Prop} {q : Nat → Nat} {ca : Nat → ClassId} {nW nB : Nat} {E : KS} {own : String} (X : Cx p m c cc nL s args own D (tysK ca)) (hP : va_P D vwCl (cwK q ca nW nB E) H) (hD : va_D A (cwK q ca nW nB E)) (hS : va_S A H0 H locs) {i v : Int32} (hin : vp_in i 32) (hdg : decode cc pc = .ok (.iastore, 1)) (kk : ∀ (H1 : Heap) (locs1 : List Loc), va_P D vwCl (cwK q ca nW nB (kx_ E (upd (kx E) i.toNatClampNeg v))) H1 → va_D A (cwK q ca nW nB (kx_ E (upd (kx E) i.toNatClampNeg v))) → va_S A H0 H1 locs1 → W p l e R s m args below meth c H1 locs1 cells slots Q (F0 m (pc + 1) ls rest)) : W p l e R s m args below meth c H locs cells slots Q (F0 m pc ls (.int v :: .int i :: .ref (q 7) :: rest)) :=
  va_iast X.1.1 X.1.2.1 X.2 hP hD hS 7 2 rfl rfl hin hdg (fun H1 locs1 hP1 hD1 hS1 => kk H1 locs1 hP1 hD1 hS1)
theorem kst_5 {p : Program} {l : Launch} {e : Env} {R : Room} {s : State} {m : MethodId} {args : Array Value} {below : List Frame} {meth : Method} {c : Code} {H H0 : Heap} {locs : List Loc} {cells slots : Nat} {Q : State → Prop} {cc : ByteArray} {pc nL : Nat} {ls : Array Slot} {rest : List Value} {D : va_G} {A : Nat → Prop} {q : Nat → Nat} {ca : Nat → ClassId} {nW nB : Nat} {E : KS} {own : String} (X : Cx p m c cc nL s args own D (tysK ca)) (hP : va_P D vwCl (cwK q ca nW nB E) H) (hD : va_D A (cwK q ca nW nB E)) (hS : va_S A H0 H locs) {i v : Int32} (hin : vp_in i nB) (hdg : decode cc pc = .ok (.bastore, 1)) (kk : ∀ (H1 : Heap) (locs1 : List Loc), va_P D vwCl (cwK q ca nW nB (kbytes_ E (upd (kbytes E) i.toNatClampNeg (vp_nar .byte v)))) H1 → va_D A (cwK q ca nW nB (kbytes_ E (upd (kbytes E) i.toNatClampNeg (vp_nar .byte v)))) → va_S A H0 H1 locs1 → W p l e R s m args below meth c H1 locs1 cells slots Q (F0 m (pc + 1) ls rest)) : W p l e R s m args below meth c H locs cells slots Q (F0 m pc ls (.int v :: .int i :: .ref (q 5) :: rest)) :=
  va_bast X.1.1 X.1.2.1 X.2 hP hD hS 5 1 rfl rfl hin hdg (fun H1 locs1 hP1 hD1 hS1 => kk H1 locs1 hP1 hD1 hS1)
theorem mst_1 {p : Program} {l : Launch} {e : Env} {R : Room} {s : State} {m : MethodId} {args : Array Value} {below : List Frame} {meth : Method} {c : Code} {H H0 : Heap} {locs : List Loc} {cells slots : Nat} {Q : State → Prop} {cc : ByteArray} {pc nL : Nat} {ls : Array Slot} {rest : List Value} {D : va_G} {A : Nat → Prop} {q : Nat → Nat} {ca : Nat → ClassId} {sz mo : Int32} {E : MS} {own : String} (X : Cx p m c cc nL s args own D (tysM ca)) (hP : va_P D vwCl (cwM q ca sz mo E) H) (hD : va_D A (cwM q ca sz mo E)) (hS : va_S A H0 H locs) {i v : Int32} (hin : vp_in i 65536) (hdg : decode cc pc = .ok (.iastore, 1)) (kk : ∀ (H1 : Heap) (locs1 : List Loc), va_P D vwCl (cwM q ca sz mo (mmemory_ E (upd (mmemory E) i.toNatClampNeg v))) H1 → va_D A (cwM q ca sz mo (mmemory_ E (upd (mmemory E) i.toNatClampNeg v))) → va_S A H0 H1 locs1 → W p l e R s m args below meth c H1 locs1 cells slots Q (F0 m (pc + 1) ls rest)) : W p l e R s m args below meth c H locs cells slots Q (F0 m pc ls (.int v :: .int i :: .ref (q 1) :: rest)) :=
  va_iast X.1.1 X.1.2.1 X.2 hP hD hS 1 0 rfl rfl hin hdg (fun H1 locs1 hP1 hD1 hS1 => kk H1 locs1 hP1 hD1 hS1)
theorem mld_3 {p : Program} {l : Launch} {e : Env} {R : Room} {s : State} {m : MethodId} {args : Array Value} {below : List Frame} {meth : Method} {c : Code} {H : Heap} {locs : List Loc} {cells slots : Nat} {Q : State → Prop} {cc : ByteArray} {pc nL : Nat} {ls : Array Slot} {rest : List Value} {D : va_G} {q : Nat → Nat} {ca : Nat → ClassId} {sz mo : Int32} {E : MS} {own : String} (X : Cx p m c cc nL s args own D (tysM ca)) (hP : va_P D vwCl (cwM q ca sz mo E) H) {i : Int32} (hin : vp_in i 4096) (hdg : decode cc pc = .ok (.iaload, 1)) (kk : W p l e R s m args below meth c H locs cells slots Q (F0 m (pc + 1) ls (.int (msent E i.toNatClampNeg) :: rest))) : W p l e R s m args below meth c H locs cells slots Q (F0 m pc ls (.int i :: .ref (q 3) :: rest)) :=
  va_iald X.1.1 X.1.2.1 X.2 hP 3 2 rfl rfl hin hdg kk
theorem mld_1 {p : Program} {l : Launch} {e : Env} {R : Room} {s : State} {m : MethodId} {args : Array Value} {below : List Frame} {meth : Method} {c : Code} {H : Heap} {locs : List Loc} {cells slots : Nat} {Q : State → Prop} {cc : ByteArray} {pc nL : Nat} {ls : Array Slot} {rest : List Value} {D : va_G} {q : Nat → Nat} {ca : Nat → ClassId} {sz mo : Int32} {E : MS} {own : String} (X : Cx p m c cc nL s args own D (tysM ca)) (hP : va_P D vwCl (cwM q ca sz mo E) H) {i : Int32} (hin : vp_in i 65536) (hdg : decode cc pc = .ok (.iaload, 1)) (kk : W p l e R s m args below meth c H locs cells slots Q (F0 m (pc + 1) ls (.int (mmemory E i.toNatClampNeg) :: rest))) : W p l e R s m args below meth c H locs cells slots Q (F0 m pc ls (.int i :: .ref (q 1) :: rest)) :=
  va_iald X.1.1 X.1.2.1 X.2 hP 1 0 rfl rfl hin hdg kk
theorem mld_2 {p : Program} {l : Launch} {e : Env} {R : Room} {s : State} {m : MethodId} {args : Array Value} {below : List Frame} {meth : Method} {c : Code} {H : Heap} {locs : List Loc} {cells slots : Nat} {Q : State → Prop} {cc : ByteArray} {pc nL : Nat} {ls : Array Slot} {rest : List Value} {D : va_G} {q : Nat → Nat} {ca : Nat → ClassId} {sz mo : Int32} {E : MS} {own : String} (X : Cx p m c cc nL s args own D (tysM ca)) (hP : va_P D vwCl (cwM q ca sz mo E) H) {i : Int32} (hin : vp_in i 32) (hdg : decode cc pc = .ok (.iaload, 1)) (kk : W p l e R s m args below meth c H locs cells slots Q (F0 m (pc + 1) ls (.int (mx E i.toNatClampNeg) :: rest))) : W p l e R s m args below meth c H locs cells slots Q (F0 m pc ls (.int i :: .ref (q 2) :: rest)) :=
  va_iald X.1.1 X.1.2.1 X.2 hP 2 1 rfl rfl hin hdg kk
theorem mst_2 {p : Program} {l : Launch} {e : Env} {R : Room} {s : State} {m : MethodId} {args : Array Value} {below : List Frame} {meth : Method} {c : Code} {H H0 : Heap} {locs : List Loc} {cells slots : Nat} {Q : State → Prop} {cc : ByteArray} {pc nL : Nat} {ls : Array Slot} {rest : List Value} {D : va_G} {A : Nat → Prop} {q : Nat → Nat} {ca : Nat → ClassId} {sz mo : Int32} {E : MS} {own : String} (X : Cx p m c cc nL s args own D (tysM ca)) (hP : va_P D vwCl (cwM q ca sz mo E) H) (hD : va_D A (cwM q ca sz mo E)) (hS : va_S A H0 H locs) {i v : Int32} (hin : vp_in i 32) (hdg : decode cc pc = .ok (.iastore, 1)) (kk : ∀ (H1 : Heap) (locs1 : List Loc), va_P D vwCl (cwM q ca sz mo (mx_ E (upd (mx E) i.toNatClampNeg v))) H1 → va_D A (cwM q ca sz mo (mx_ E (upd (mx E) i.toNatClampNeg v))) → va_S A H0 H1 locs1 → W p l e R s m args below meth c H1 locs1 cells slots Q (F0 m (pc + 1) ls rest)) : W p l e R s m args below meth c H locs cells slots Q (F0 m pc ls (.int v :: .int i :: .ref (q 2) :: rest)) :=
  va_iast X.1.1 X.1.2.1 X.2 hP hD hS 2 1 rfl rfl hin hdg (fun H1 locs1 hP1 hD1 hS1 => kk H1 locs1 hP1 hD1 hS1)
theorem mst_3 {p : Program} {l : Launch} {e : Env} {R : Room} {s : State} {m : MethodId} {args : Array Value} {below : List Frame} {meth : Method} {c : Code} {H H0 : Heap} {locs : List Loc} {cells slots : Nat} {Q : State → Prop} {cc : ByteArray} {pc nL : Nat} {ls : Array Slot} {rest : List Value} {D : va_G} {A : Nat → Prop} {q : Nat → Nat} {ca : Nat → ClassId} {sz mo : Int32} {E : MS} {own : String} (X : Cx p m c cc nL s args own D (tysM ca)) (hP : va_P D vwCl (cwM q ca sz mo E) H) (hD : va_D A (cwM q ca sz mo E)) (hS : va_S A H0 H locs) {i v : Int32} (hin : vp_in i 4096) (hdg : decode cc pc = .ok (.iastore, 1)) (kk : ∀ (H1 : Heap) (locs1 : List Loc), va_P D vwCl (cwM q ca sz mo (msent_ E (upd (msent E) i.toNatClampNeg v))) H1 → va_D A (cwM q ca sz mo (msent_ E (upd (msent E) i.toNatClampNeg v))) → va_S A H0 H1 locs1 → W p l e R s m args below meth c H1 locs1 cells slots Q (F0 m (pc + 1) ls rest)) : W p l e R s m args below meth c H locs cells slots Q (F0 m pc ls (.int v :: .int i :: .ref (q 3) :: rest)) :=
  va_iast X.1.1 X.1.2.1 X.2 hP hD hS 3 2 rfl rfl hin hdg (fun H1 locs1 hP1 hD1 hS1 => kk H1 locs1 hP1 hD1 hS1)
theorem gs_kon_value (E : KS) (v : Int32) : kon (kvalue_ E v) = kon E := rfl
theorem gs_kon_cause (E : KS) (v : Int32) : kon (kcause_ E v) = kon E := rfl
theorem gs_kon_back (E : KS) (v : Int32) : kon (kback_ E v) = kon E := rfl
theorem gs_kvector_on (E : KS) (v : Bool) : kvector (kon_ E v) = kvector E := rfl
theorem gs_kvector_was (E : KS) (v : Bool) : kvector (kwas_ E v) = kvector E := rfl
theorem gs_kvector_value (E : KS) (v : Int32) : kvector (kvalue_ E v) = kvector E := rfl
theorem gs_kvector_cause (E : KS) (v : Int32) : kvector (kcause_ E v) = kvector E := rfl
theorem gs_kvector_back (E : KS) (v : Int32) : kvector (kback_ E v) = kvector E := rfl
theorem gs_kretired_place (E : KS) (v : Int32) : kretired (kplace_ E v) = kretired E := rfl
theorem gs_ksent_bytes (E : KS) (v : (Nat → Int32)) : ksent (kbytes_ E v) = ksent E := rfl
theorem gs_kback_was (E : KS) (v : Bool) : kback (kwas_ E v) = kback E := rfl
theorem gs_kback_on (E : KS) (v : Bool) : kback (kon_ E v) = kback E := rfl
theorem gs_kplace_waiting (E : KS) (v : Bool) : kplace (kwaiting_ E v) = kplace E := rfl
theorem gs_klatest_latest (E : KS) (v : Int32) : klatest (klatest_ E v) = v := rfl
theorem gs_mmie_mtval (E : MS) (v : Int32) : mmie (mmtval_ E v) = mmie E := rfl
theorem gs_mmie_mcause (E : MS) (v : Int32) : mmie (mmcause_ E v) = mmie E := rfl
theorem gs_mmie_mepc (E : MS) (v : Int32) : mmie (mmepc_ E v) = mmie E := rfl
theorem gs_mmtvec_mie (E : MS) (v : Bool) : mmtvec (mmie_ E v) = mmtvec E := rfl
theorem gs_mmtvec_mpie (E : MS) (v : Bool) : mmtvec (mmpie_ E v) = mmtvec E := rfl
theorem gs_mmtvec_mtval (E : MS) (v : Int32) : mmtvec (mmtval_ E v) = mmtvec E := rfl
theorem gs_mmtvec_mcause (E : MS) (v : Int32) : mmtvec (mmcause_ E v) = mmtvec E := rfl
theorem gs_mmtvec_mepc (E : MS) (v : Int32) : mmtvec (mmepc_ E v) = mmtvec E := rfl
theorem gs_msentMany_sent (E : MS) (v : (Nat → Int32)) : msentMany (msent_ E v) = msentMany E := rfl
theorem gs_mmpie_next (E : MS) (v : Int32) : mmpie (mnext_ E v) = mmpie E := rfl
theorem gs_mword_word (E : MS) (v : Int32) : mword (mword_ E v) = v := rfl
theorem gs_mword_d (E : MS) (v : Int32) : mword (md_ E v) = mword E := rfl
theorem gs_mword_f (E : MS) (v : Int32) : mword (mf_ E v) = mword E := rfl
theorem gs_mword_s (E : MS) (v : Int32) : mword (ms_ E v) = mword E := rfl
theorem gs_mword_t (E : MS) (v : Int32) : mword (mt_ E v) = mword E := rfl
theorem gs_mpc_g (E : MS) (v : Int32) : mpc (mg_ E v) = mpc E := rfl
theorem gs_mpc_t (E : MS) (v : Int32) : mpc (mt_ E v) = mpc E := rfl
theorem gs_mpc_s (E : MS) (v : Int32) : mpc (ms_ E v) = mpc E := rfl
theorem gs_mpc_f (E : MS) (v : Int32) : mpc (mf_ E v) = mpc E := rfl
theorem gs_mpc_d (E : MS) (v : Int32) : mpc (md_ E v) = mpc E := rfl
theorem gs_mpc_word (E : MS) (v : Int32) : mpc (mword_ E v) = mpc E := rfl
theorem gs_msentMany_next (E : MS) (v : Int32) : msentMany (mnext_ E v) = msentMany E := rfl
theorem gs_msentMany_g (E : MS) (v : Int32) : msentMany (mg_ E v) = msentMany E := rfl
theorem gs_msentMany_t (E : MS) (v : Int32) : msentMany (mt_ E v) = msentMany E := rfl
theorem gs_msentMany_s (E : MS) (v : Int32) : msentMany (ms_ E v) = msentMany E := rfl
theorem gs_msentMany_f (E : MS) (v : Int32) : msentMany (mf_ E v) = msentMany E := rfl
theorem gs_msentMany_d (E : MS) (v : Int32) : msentMany (md_ E v) = msentMany E := rfl
theorem gs_msentMany_word (E : MS) (v : Int32) : msentMany (mword_ E v) = msentMany E := rfl
theorem gs_mlatest_latest (E : MS) (v : Int32) : mlatest (mlatest_ E v) = v := rfl
theorem gs_mretired_latest (E : MS) (v : Int32) : mretired (mlatest_ E v) = mretired E := rfl
theorem gs_mlatest_retired (E : MS) (v : Int64) : mlatest (mretired_ E v) = mlatest E := rfl
