/-! contracts: X5_work X5_instruction X5_once X5_step X5_tick X5_told -/
set_option maxHeartbeats 4000000 in
set_option maxRecDepth 100000 in
theorem c_X5_work (l : Launch) (D : va_G) (q : Nat → Nat) (ca : Nat → ClassId) (sz mo : Int32) (hk : MOk sz mo) (E : MS) (hd : mDec E) (hs : mSnt mo E) : Mt l yX5_work cX5_work 2 (some .int) 3 D (tysM ca) [.ref (q 0)] (cwM q ca sz mo E) (QcI D (cwM q ca sz mo E) (cwM q ca sz mo (f_X5_work sz mo E).2) (f_X5_work sz mo E).1) := by
  refine ent (own := RX5) rfl (by decide) (Nat.le_of_ble_eq_true rfl) ?_
  intro p e s m below meth c A ls X hr hlk hmn hAe hA hP hD hS hl
  have hx := X.1.1
  have hb := X.1.2.1
  have hl : lv_has ls 2 [(0, .ref (q 0))] := hl
  refine lv_aload_n hx hb dX5_work_0 rfl (lv_at hl 0 rfl) ?_
  refine gf_X5_118 X hP dX5_work_1 ?_
  refine lv_bipush (v := (127 : Int32)) hx hb dX5_work_4 (by decide) ?_
  refine lv_iand hx hb dX5_work_6 ?_
  by_cases c_1 : ((mword E) &&& (127 : Int32)) = (3 : Int32)
  ·
    refine lv_lookup (off := 228) (tgt := 235) hx hb dX5_work_7 (by decide) (by rw [c_1]; decide) (by decide) ?_
    refine lv_aload_n hx hb dX5_work_235 rfl (lv_at hl 0 rfl) ?_
    refine go_i (rn_V (ci := 5) (q0 := 0) X (c_X5_read l D q ca sz mo hk E hd) ok_X5_read wd_633 ⟨by decide, by decide⟩ hP hD rfl rfl rfl hl.1 rfl (Nat.le_of_ble_eq_true rfl) dX5_work_236 ⟨Nat.zero_le _, Nat.zero_le _⟩) hP hD hS hA (fun H locs hP hD hS => ?_)
    exact rmu_i (v := (f_X5_read sz mo E).1) (F := (f_X5_work sz mo E)) (E1 := (f_X5_read sz mo E).2) (by unfold f_X5_work; rw [if_pos c_1]; try rfl) X hP hD hS hAe hr hlk dX5_work_239
  by_cases c_2 : ((mword E) &&& (127 : Int32)) = (15 : Int32)
  ·
    refine lv_lookup (off := 252) (tgt := 259) hx hb dX5_work_7 (by decide) (by rw [c_2]; decide) (by decide) ?_
    refine lv_aload_n hx hb dX5_work_259 rfl (lv_at hl 0 rfl) ?_
    refine gf_X5_127 X hP dX5_work_260 ?_
    refine lv_if_ne (tgt := 270) hx hb dX5_work_263 (by decide) (fun c_3 => ?_) (fun c_3 => ?_)
    ·
      refine lv_aload_n hx hb dX5_work_270 rfl (lv_at hl 0 rfl) ?_
      refine go_i (rn_V (ci := 5) (q0 := 0) X (c_X5_illegal l D q ca sz mo hk E ) ok_X5_illegal wd_621 ⟨by decide, by decide⟩ hP hD rfl rfl rfl hl.1 rfl (Nat.le_of_ble_eq_true rfl) dX5_work_271 ⟨Nat.zero_le _, Nat.zero_le _⟩) hP hD hS hA (fun H locs hP hD hS => ?_)
      exact rmu_i (v := (f_X5_illegal sz mo E).1) (F := (f_X5_work sz mo E)) (E1 := (f_X5_illegal sz mo E).2) (by unfold f_X5_work; rw [if_neg c_1, if_pos c_2, if_neg c_3]; try rfl) X hP hD hS hAe hr hlk dX5_work_274
    ·
      refine lv_iconst (v := (-1 : Int32)) hx hb dX5_work_266 (by decide) ?_
      refine lv_goto (tgt := 274) hx hb dX5_work_267 (by decide) ?_
      exact rmu_i (v := (-1 : Int32)) (F := (f_X5_work sz mo E)) (E1 := E) (by unfold f_X5_work; rw [if_neg c_1, if_pos c_2, if_pos c_3]; try rfl) X hP hD hS hAe hr hlk dX5_work_274
  by_cases c_4 : ((mword E) &&& (127 : Int32)) = (19 : Int32)
  ·
    refine lv_lookup (off := 238) (tgt := 245) hx hb dX5_work_7 (by decide) (by rw [c_4]; decide) (by decide) ?_
    refine lv_aload_n hx hb dX5_work_245 rfl (lv_at hl 0 rfl) ?_
    refine lv_aload_n hx hb dX5_work_246 rfl (lv_at hl 0 rfl) ?_
    refine go_i (rn_V (ci := 5) (q0 := 0) X (c_X5_immediate l D q ca sz mo hk E ) ok_X5_immediate wd_617 ⟨by decide, by decide⟩ hP hD rfl rfl rfl hl.1 rfl (Nat.le_of_ble_eq_true rfl) dX5_work_247 ⟨Nat.zero_le _, Nat.zero_le _⟩) hP hD hS hA (fun H locs hP hD hS => ?_)
    refine go_i (rn_V (ci := 5) (q0 := 0) X (c_X5_reckonBy l D q ca sz mo hk E (f_X5_immediate sz mo E) hd) ok_X5_reckonBy wd_656 ⟨by decide, by decide⟩ hP hD rfl rfl rfl hl.1 rfl (Nat.le_of_ble_eq_true rfl) dX5_work_250 ⟨Nat.zero_le _, Nat.zero_le _⟩) hP hD hS hA (fun H locs hP hD hS => ?_)
    exact rmu_i (v := (f_X5_reckonBy sz mo E (f_X5_immediate sz mo E)).1) (F := (f_X5_work sz mo E)) (E1 := (f_X5_reckonBy sz mo E (f_X5_immediate sz mo E)).2) (by unfold f_X5_work; rw [if_neg c_1, if_neg c_2, if_pos c_4]; try rfl) X hP hD hS hAe hr hlk dX5_work_253
  by_cases c_5 : ((mword E) &&& (127 : Int32)) = (23 : Int32)
  ·
    refine lv_lookup (off := 110) (tgt := 117) hx hb dX5_work_7 (by decide) (by rw [c_5]; decide) (by decide) ?_
    refine lv_aload_n hx hb dX5_work_117 rfl (lv_at hl 0 rfl) ?_
    refine lv_aload_n hx hb dX5_work_118 rfl (lv_at hl 0 rfl) ?_
    refine gf_X5_30 X hP dX5_work_119 ?_
    refine lv_aload_n hx hb dX5_work_122 rfl (lv_at hl 0 rfl) ?_
    refine gf_X5_118 X hP dX5_work_123 ?_
    refine lv_sipush (v := (-4096 : Int32)) hx hb dX5_work_126 (by decide) ?_
    refine lv_iand hx hb dX5_work_129 ?_
    refine lv_iadd hx hb dX5_work_130 ?_
    refine go_i (rn_V (ci := 5) (q0 := 0) X (c_X5_become l D q ca sz mo hk E ((mpc E) + ((mword E) &&& (-4096 : Int32))) hd.1) ok_X5_become wd_608 ⟨by decide, by decide⟩ hP hD rfl rfl rfl hl.1 rfl (Nat.le_of_ble_eq_true rfl) dX5_work_131 ⟨Nat.zero_le _, Nat.zero_le _⟩) hP hD hS hA (fun H locs hP hD hS => ?_)
    exact rmu_i (v := (f_X5_become sz mo E ((mpc E) + ((mword E) &&& (-4096 : Int32)))).1) (F := (f_X5_work sz mo E)) (E1 := (f_X5_become sz mo E ((mpc E) + ((mword E) &&& (-4096 : Int32)))).2) (by unfold f_X5_work; rw [if_neg c_1, if_neg c_2, if_neg c_4, if_pos c_5]; try rfl) X hP hD hS hAe hr hlk dX5_work_134
  by_cases c_6 : ((mword E) &&& (127 : Int32)) = (35 : Int32)
  ·
    refine lv_lookup (off := 233) (tgt := 240) hx hb dX5_work_7 (by decide) (by rw [c_6]; decide) (by decide) ?_
    refine lv_aload_n hx hb dX5_work_240 rfl (lv_at hl 0 rfl) ?_
    refine go_i (rn_V (ci := 5) (q0 := 0) X (c_X5_store l D q ca sz mo hk E hd hs) ok_X5_store wd_648 ⟨by decide, by decide⟩ hP hD rfl rfl rfl hl.1 rfl (Nat.le_of_ble_eq_true rfl) dX5_work_241 ⟨Nat.zero_le _, Nat.zero_le _⟩) hP hD hS hA (fun H locs hP hD hS => ?_)
    exact rmu_i (v := (f_X5_store sz mo E).1) (F := (f_X5_work sz mo E)) (E1 := (f_X5_store sz mo E).2) (by unfold f_X5_work; rw [if_neg c_1, if_neg c_2, if_neg c_4, if_neg c_5, if_pos c_6]; try rfl) X hP hD hS hAe hr hlk dX5_work_244
  by_cases c_7 : ((mword E) &&& (127 : Int32)) = (51 : Int32)
  ·
    refine lv_lookup (off := 247) (tgt := 254) hx hb dX5_work_7 (by decide) (by rw [c_7]; decide) (by decide) ?_
    refine lv_aload_n hx hb dX5_work_254 rfl (lv_at hl 0 rfl) ?_
    refine go_i (rn_V (ci := 5) (q0 := 0) X (c_X5_reckonTwo l D q ca sz mo hk E hd) ok_X5_reckonTwo wd_664 ⟨by decide, by decide⟩ hP hD rfl rfl rfl hl.1 rfl (Nat.le_of_ble_eq_true rfl) dX5_work_255 ⟨Nat.zero_le _, Nat.zero_le _⟩) hP hD hS hA (fun H locs hP hD hS => ?_)
    exact rmu_i (v := (f_X5_reckonTwo sz mo E).1) (F := (f_X5_work sz mo E)) (E1 := (f_X5_reckonTwo sz mo E).2) (by unfold f_X5_work; rw [if_neg c_1, if_neg c_2, if_neg c_4, if_neg c_5, if_neg c_6, if_pos c_7]; try rfl) X hP hD hS hAe hr hlk dX5_work_258
  by_cases c_8 : ((mword E) &&& (127 : Int32)) = (55 : Int32)
  ·
    refine lv_lookup (off := 97) (tgt := 104) hx hb dX5_work_7 (by decide) (by rw [c_8]; decide) (by decide) ?_
    refine lv_aload_n hx hb dX5_work_104 rfl (lv_at hl 0 rfl) ?_
    refine lv_aload_n hx hb dX5_work_105 rfl (lv_at hl 0 rfl) ?_
    refine gf_X5_118 X hP dX5_work_106 ?_
    refine lv_sipush (v := (-4096 : Int32)) hx hb dX5_work_109 (by decide) ?_
    refine lv_iand hx hb dX5_work_112 ?_
    refine go_i (rn_V (ci := 5) (q0 := 0) X (c_X5_become l D q ca sz mo hk E ((mword E) &&& (-4096 : Int32)) hd.1) ok_X5_become wd_608 ⟨by decide, by decide⟩ hP hD rfl rfl rfl hl.1 rfl (Nat.le_of_ble_eq_true rfl) dX5_work_113 ⟨Nat.zero_le _, Nat.zero_le _⟩) hP hD hS hA (fun H locs hP hD hS => ?_)
    exact rmu_i (v := (f_X5_become sz mo E ((mword E) &&& (-4096 : Int32))).1) (F := (f_X5_work sz mo E)) (E1 := (f_X5_become sz mo E ((mword E) &&& (-4096 : Int32))).2) (by unfold f_X5_work; rw [if_neg c_1, if_neg c_2, if_neg c_4, if_neg c_5, if_neg c_6, if_neg c_7, if_pos c_8]; try rfl) X hP hD hS hAe hr hlk dX5_work_116
  by_cases c_9 : ((mword E) &&& (127 : Int32)) = (99 : Int32)
  ·
    refine lv_lookup (off := 223) (tgt := 230) hx hb dX5_work_7 (by decide) (by rw [c_9]; decide) (by decide) ?_
    refine lv_aload_n hx hb dX5_work_230 rfl (lv_at hl 0 rfl) ?_
    refine go_i (rn_V (ci := 5) (q0 := 0) X (c_X5_branch l D q ca sz mo hk E hd) ok_X5_branch wd_625 ⟨by decide, by decide⟩ hP hD rfl rfl rfl hl.1 rfl (Nat.le_of_ble_eq_true rfl) dX5_work_231 ⟨Nat.zero_le _, Nat.zero_le _⟩) hP hD hS hA (fun H locs hP hD hS => ?_)
    exact rmu_i (v := (f_X5_branch sz mo E).1) (F := (f_X5_work sz mo E)) (E1 := (f_X5_branch sz mo E).2) (by unfold f_X5_work; rw [if_neg c_1, if_neg c_2, if_neg c_4, if_neg c_5, if_neg c_6, if_neg c_7, if_neg c_8, if_pos c_9]; try rfl) X hP hD hS hAe hr hlk dX5_work_234
  by_cases c_10 : ((mword E) &&& (127 : Int32)) = (103 : Int32)
  ·
    refine lv_lookup (off := 186) (tgt := 193) hx hb dX5_work_7 (by decide) (by rw [c_10]; decide) (by decide) ?_
    refine lv_aload_n hx hb dX5_work_193 rfl (lv_at hl 0 rfl) ?_
    refine gf_X5_127 X hP dX5_work_194 ?_
    refine lv_if_ne (tgt := 225) hx hb dX5_work_197 (by decide) (fun c_11 => ?_) (fun c_11 => ?_)
    ·
      refine lv_aload_n hx hb dX5_work_225 rfl (lv_at hl 0 rfl) ?_
      refine go_i (rn_V (ci := 5) (q0 := 0) X (c_X5_illegal l D q ca sz mo hk E ) ok_X5_illegal wd_621 ⟨by decide, by decide⟩ hP hD rfl rfl rfl hl.1 rfl (Nat.le_of_ble_eq_true rfl) dX5_work_226 ⟨Nat.zero_le _, Nat.zero_le _⟩) hP hD hS hA (fun H locs hP hD hS => ?_)
      exact rmu_i (v := (f_X5_illegal sz mo E).1) (F := (f_X5_work sz mo E)) (E1 := (f_X5_illegal sz mo E).2) (by unfold f_X5_work; rw [if_neg c_1, if_neg c_2, if_neg c_4, if_neg c_5, if_neg c_6, if_neg c_7, if_neg c_8, if_neg c_9, if_pos c_10, if_neg c_11]; try rfl) X hP hD hS hAe hr hlk dX5_work_229
    ·
      refine lv_aload_n hx hb dX5_work_200 rfl (lv_at hl 0 rfl) ?_
      refine lv_aload_n hx hb dX5_work_201 rfl (lv_at hl 0 rfl) ?_
      refine gf_X5_14 X hP dX5_work_202 ?_
      refine lv_aload_n hx hb dX5_work_205 rfl (lv_at hl 0 rfl) ?_
      refine gf_X5_130 X hP dX5_work_206 ?_
      refine mld_2 X hP hd.2.1 dX5_work_209 ?_
      refine lv_aload_n hx hb dX5_work_210 rfl (lv_at hl 0 rfl) ?_
      refine go_i (rn_V (ci := 5) (q0 := 0) X (c_X5_immediate l D q ca sz mo hk E ) ok_X5_immediate wd_617 ⟨by decide, by decide⟩ hP hD rfl rfl rfl hl.1 rfl (Nat.le_of_ble_eq_true rfl) dX5_work_211 ⟨Nat.zero_le _, Nat.zero_le _⟩) hP hD hS hA (fun H locs hP hD hS => ?_)
      refine lv_iadd hx hb dX5_work_214 ?_
      refine lv_bipush (v := (-2 : Int32)) hx hb dX5_work_215 (by decide) ?_
      refine lv_iand hx hb dX5_work_217 ?_
      refine lv_iconst (v := (1 : Int32)) hx hb dX5_work_218 (by decide) ?_
      refine go_i (rn_V (ci := 5) (q0 := 0) X (c_X5_goTo l D q ca sz mo hk E (((mx E ((ms E)).toNatClampNeg) + (f_X5_immediate sz mo E)) &&& (-2 : Int32)) true hd.1) ok_X5_goTo wd_613 ⟨by decide, by decide⟩ hP hD rfl rfl rfl hl.1 rfl (Nat.le_of_ble_eq_true rfl) dX5_work_219 ⟨Nat.zero_le _, Nat.zero_le _⟩) hP hD hS hA (fun H locs hP hD hS => ?_)
      refine lv_goto (tgt := 229) hx hb dX5_work_222 (by decide) ?_
      exact rmu_i (v := (f_X5_goTo sz mo E (((mx E ((ms E)).toNatClampNeg) + (f_X5_immediate sz mo E)) &&& (-2 : Int32)) true).1) (F := (f_X5_work sz mo E)) (E1 := (f_X5_goTo sz mo E (((mx E ((ms E)).toNatClampNeg) + (f_X5_immediate sz mo E)) &&& (-2 : Int32)) true).2) (by unfold f_X5_work; rw [if_neg c_1, if_neg c_2, if_neg c_4, if_neg c_5, if_neg c_6, if_neg c_7, if_neg c_8, if_neg c_9, if_pos c_10, if_pos c_11]; try rfl) X hP hD hS hAe hr hlk dX5_work_229
  by_cases c_12 : ((mword E) &&& (127 : Int32)) = (111 : Int32)
  ·
    refine lv_lookup (off := 128) (tgt := 135) hx hb dX5_work_7 (by decide) (by rw [c_12]; decide) (by decide) ?_
    refine lv_aload_n hx hb dX5_work_135 rfl (lv_at hl 0 rfl) ?_
    refine gf_X5_118 X hP dX5_work_136 ?_
    refine lv_bipush (v := (31 : Int32)) hx hb dX5_work_139 (by decide) ?_
    refine lv_ishr hx hb dX5_work_141 ?_
    refine lv_bipush (v := (20 : Int32)) hx hb dX5_work_142 (by decide) ?_
    refine lv_ishl hx hb dX5_work_144 ?_
    refine lv_aload_n hx hb dX5_work_145 rfl (lv_at hl 0 rfl) ?_
    refine gf_X5_118 X hP dX5_work_146 ?_
    refine lv_ldc (v := (1044480 : Int32)) hx hb X.1.2.2.2.1 (X.1.2.2.2.2 _ wd_612) dX5_work_149 ?_
    refine lv_iand hx hb dX5_work_151 ?_
    refine lv_ior hx hb dX5_work_152 ?_
    refine lv_aload_n hx hb dX5_work_153 rfl (lv_at hl 0 rfl) ?_
    refine gf_X5_118 X hP dX5_work_154 ?_
    refine lv_bipush (v := (20 : Int32)) hx hb dX5_work_157 (by decide) ?_
    refine lv_ishr hx hb dX5_work_159 ?_
    refine lv_iconst (v := (1 : Int32)) hx hb dX5_work_160 (by decide) ?_
    refine lv_iand hx hb dX5_work_161 ?_
    refine lv_bipush (v := (11 : Int32)) hx hb dX5_work_162 (by decide) ?_
    refine lv_ishl hx hb dX5_work_164 ?_
    refine lv_ior hx hb dX5_work_165 ?_
    refine lv_aload_n hx hb dX5_work_166 rfl (lv_at hl 0 rfl) ?_
    refine gf_X5_118 X hP dX5_work_167 ?_
    refine lv_bipush (v := (21 : Int32)) hx hb dX5_work_170 (by decide) ?_
    refine lv_ishr hx hb dX5_work_172 ?_
    refine lv_sipush (v := (1023 : Int32)) hx hb dX5_work_173 (by decide) ?_
    refine lv_iand hx hb dX5_work_176 ?_
    refine lv_iconst (v := (1 : Int32)) hx hb dX5_work_177 (by decide) ?_
    refine lv_ishl hx hb dX5_work_178 ?_
    refine lv_ior hx hb dX5_work_179 ?_
    refine lv_istore_n (lv' := [(1, .int ((((((mword E) >>> ((31 : Int32) &&& 31)) <<< ((20 : Int32) &&& 31)) ||| ((mword E) &&& (1044480 : Int32))) ||| ((((mword E) >>> ((20 : Int32) &&& 31)) &&& (1 : Int32)) <<< ((11 : Int32) &&& 31))) ||| ((((mword E) >>> ((21 : Int32) &&& 31)) &&& (1023 : Int32)) <<< ((1 : Int32) &&& 31)))), (0, .ref (q 0))]) hx hb dX5_work_180 rfl hl (by decide) rfl (fun ls hl => ?_)
    refine lv_aload_n hx hb dX5_work_181 rfl (lv_at hl 1 rfl) ?_
    refine lv_aload_n hx hb dX5_work_182 rfl (lv_at hl 1 rfl) ?_
    refine gf_X5_30 X hP dX5_work_183 ?_
    refine lv_iload_n hx hb dX5_work_186 rfl (lv_at hl 0 rfl) ?_
    refine lv_iadd hx hb dX5_work_187 ?_
    refine lv_iconst (v := (1 : Int32)) hx hb dX5_work_188 (by decide) ?_
    refine go_i (rn_V (ci := 5) (q0 := 0) X (c_X5_goTo l D q ca sz mo hk E ((mpc E) + ((((((mword E) >>> ((31 : Int32) &&& 31)) <<< ((20 : Int32) &&& 31)) ||| ((mword E) &&& (1044480 : Int32))) ||| ((((mword E) >>> ((20 : Int32) &&& 31)) &&& (1 : Int32)) <<< ((11 : Int32) &&& 31))) ||| ((((mword E) >>> ((21 : Int32) &&& 31)) &&& (1023 : Int32)) <<< ((1 : Int32) &&& 31)))) true hd.1) ok_X5_goTo wd_613 ⟨by decide, by decide⟩ hP hD rfl rfl rfl hl.1 rfl (Nat.le_of_ble_eq_true rfl) dX5_work_189 ⟨Nat.zero_le _, Nat.zero_le _⟩) hP hD hS hA (fun H locs hP hD hS => ?_)
    exact rmu_i (v := (f_X5_goTo sz mo E ((mpc E) + ((((((mword E) >>> ((31 : Int32) &&& 31)) <<< ((20 : Int32) &&& 31)) ||| ((mword E) &&& (1044480 : Int32))) ||| ((((mword E) >>> ((20 : Int32) &&& 31)) &&& (1 : Int32)) <<< ((11 : Int32) &&& 31))) ||| ((((mword E) >>> ((21 : Int32) &&& 31)) &&& (1023 : Int32)) <<< ((1 : Int32) &&& 31)))) true).1) (F := (f_X5_work sz mo E)) (E1 := (f_X5_goTo sz mo E ((mpc E) + ((((((mword E) >>> ((31 : Int32) &&& 31)) <<< ((20 : Int32) &&& 31)) ||| ((mword E) &&& (1044480 : Int32))) ||| ((((mword E) >>> ((20 : Int32) &&& 31)) &&& (1 : Int32)) <<< ((11 : Int32) &&& 31))) ||| ((((mword E) >>> ((21 : Int32) &&& 31)) &&& (1023 : Int32)) <<< ((1 : Int32) &&& 31)))) true).2) (by unfold f_X5_work; rw [if_neg c_1, if_neg c_2, if_neg c_4, if_neg c_5, if_neg c_6, if_neg c_7, if_neg c_8, if_neg c_9, if_neg c_10, if_pos c_12]; try rfl) X hP hD hS hAe hr hlk dX5_work_192
  by_cases c_13 : ((mword E) &&& (127 : Int32)) = (115 : Int32)
  ·
    refine lv_lookup (off := 268) (tgt := 275) hx hb dX5_work_7 (by decide) (by rw [c_13]; decide) (by decide) ?_
    refine lv_aload_n hx hb dX5_work_275 rfl (lv_at hl 0 rfl) ?_
    refine gf_X5_127 X hP dX5_work_276 ?_
    refine lv_if_ne (tgt := 289) hx hb dX5_work_279 (by decide) (fun c_14 => ?_) (fun c_14 => ?_)
    ·
      refine lv_aload_n hx hb dX5_work_289 rfl (lv_at hl 0 rfl) ?_
      refine go_i (rn_V (ci := 5) (q0 := 0) X (c_X5_control l D q ca sz mo hk E hd) ok_X5_control wd_676 ⟨by decide, by decide⟩ hP hD rfl rfl rfl hl.1 rfl (Nat.le_of_ble_eq_true rfl) dX5_work_290 ⟨Nat.zero_le _, Nat.zero_le _⟩) hP hD hS hA (fun H locs hP hD hS => ?_)
      exact rmu_i (v := (f_X5_control sz mo E).1) (F := (f_X5_work sz mo E)) (E1 := (f_X5_control sz mo E).2) (by unfold f_X5_work; rw [if_neg c_1, if_neg c_2, if_neg c_4, if_neg c_5, if_neg c_6, if_neg c_7, if_neg c_8, if_neg c_9, if_neg c_10, if_neg c_12, if_pos c_13, if_neg c_14]; try rfl) X hP hD hS hAe hr hlk dX5_work_293
    ·
      refine lv_aload_n hx hb dX5_work_282 rfl (lv_at hl 0 rfl) ?_
      refine go_i (rn_V (ci := 5) (q0 := 0) X (c_X5_system l D q ca sz mo hk E ) ok_X5_system wd_672 ⟨by decide, by decide⟩ hP hD rfl rfl rfl hl.1 rfl (Nat.le_of_ble_eq_true rfl) dX5_work_283 ⟨Nat.zero_le _, Nat.zero_le _⟩) hP hD hS hA (fun H locs hP hD hS => ?_)
      refine lv_goto (tgt := 293) hx hb dX5_work_286 (by decide) ?_
      exact rmu_i (v := (f_X5_system sz mo E).1) (F := (f_X5_work sz mo E)) (E1 := (f_X5_system sz mo E).2) (by unfold f_X5_work; rw [if_neg c_1, if_neg c_2, if_neg c_4, if_neg c_5, if_neg c_6, if_neg c_7, if_neg c_8, if_neg c_9, if_neg c_10, if_neg c_12, if_pos c_13, if_pos c_14]; try rfl) X hP hD hS hAe hr hlk dX5_work_293
  refine lv_lookup (off := 287) (tgt := 294) hx hb dX5_work_7 (by decide) ((lv_osw c_1 (by decide)).trans ((lv_osw c_2 (by decide)).trans ((lv_osw c_4 (by decide)).trans ((lv_osw c_5 (by decide)).trans ((lv_osw c_6 (by decide)).trans ((lv_osw c_7 (by decide)).trans ((lv_osw c_8 (by decide)).trans ((lv_osw c_9 (by decide)).trans ((lv_osw c_10 (by decide)).trans ((lv_osw c_12 (by decide)).trans ((lv_osw c_13 (by decide)).trans rfl))))))))))) (by decide) ?_
  refine lv_aload_n hx hb dX5_work_294 rfl (lv_at hl 0 rfl) ?_
  refine go_i (rn_V (ci := 5) (q0 := 0) X (c_X5_illegal l D q ca sz mo hk E ) ok_X5_illegal wd_621 ⟨by decide, by decide⟩ hP hD rfl rfl rfl hl.1 rfl (Nat.le_of_ble_eq_true rfl) dX5_work_295 ⟨Nat.zero_le _, Nat.zero_le _⟩) hP hD hS hA (fun H locs hP hD hS => ?_)
  exact rmu_i (v := (f_X5_illegal sz mo E).1) (F := (f_X5_work sz mo E)) (E1 := (f_X5_illegal sz mo E).2) (by unfold f_X5_work; rw [if_neg c_1, if_neg c_2, if_neg c_4, if_neg c_5, if_neg c_6, if_neg c_7, if_neg c_8, if_neg c_9, if_neg c_10, if_neg c_12, if_neg c_13]; try rfl) X hP hD hS hAe hr hlk dX5_work_298
set_option maxHeartbeats 4000000 in
set_option maxRecDepth 100000 in
theorem c_X5_instruction (l : Launch) (D : va_G) (q : Nat → Nat) (ca : Nat → ClassId) (sz mo : Int32) (hk : MOk sz mo) (E : MS) (hs : mSnt mo E) : Mt l yX5_instruction cX5_instruction 2 (some .int) 4 D (tysM ca) [.ref (q 0)] (cwM q ca sz mo E) (QcI D (cwM q ca sz mo E) (cwM q ca sz mo (f_X5_instruction sz mo E).2) (f_X5_instruction sz mo E).1) := by
  refine ent (own := RX5) rfl (by decide) (Nat.le_of_ble_eq_true rfl) ?_
  intro p e s m below meth c A ls X hr hlk hmn hAe hA hP hD hS hl
  have hx := X.1.1
  have hb := X.1.2.1
  have hl : lv_has ls 2 [(0, .ref (q 0))] := hl
  refine lv_aload_n hx hb dX5_instruction_0 rfl (lv_at hl 0 rfl) ?_
  refine lv_aload_n hx hb dX5_instruction_1 rfl (lv_at hl 0 rfl) ?_
  refine gf_X5_30 X hP dX5_instruction_2 ?_
  refine lv_iconst (v := (4 : Int32)) hx hb dX5_instruction_5 (by decide) ?_
  refine go_i (rn_V (ci := 5) (q0 := 0) X (c_X5_isThere l D q ca sz mo hk E (mpc E) (4 : Int32)) ok_X5_isThere wd_556 ⟨by decide, by decide⟩ hP hD rfl rfl rfl hl.1 rfl (Nat.le_of_ble_eq_true rfl) dX5_instruction_6 ⟨Nat.zero_le _, Nat.zero_le _⟩) hP hD hS hA (fun H locs hP hD hS => ?_)
  refine lv_if_ne (tgt := 22) hx hb dX5_instruction_9 (by decide) (fun c_1 => ?_) (fun c_1 => ?_)
  ·
    refine lv_aload_n hx hb dX5_instruction_22 rfl (lv_at hl 0 rfl) ?_
    refine lv_aload_n hx hb dX5_instruction_23 rfl (lv_at hl 0 rfl) ?_
    refine lv_aload_n hx hb dX5_instruction_24 rfl (lv_at hl 0 rfl) ?_
    refine gf_X5_30 X hP dX5_instruction_25 ?_
    refine lv_iconst (v := (4 : Int32)) hx hb dX5_instruction_28 (by decide) ?_
    refine go_i (rn_V (ci := 5) (q0 := 0) X (c_X5_get l D q ca sz mo hk E (mpc E) (4 : Int32) c_1 (Or.inr (Or.inr rfl))) ok_X5_get wd_600 ⟨by decide, by decide⟩ hP hD rfl rfl rfl hl.1 rfl (Nat.le_of_ble_eq_true rfl) dX5_instruction_29 ⟨Nat.zero_le _, Nat.zero_le _⟩) hP hD hS hA (fun H locs hP hD hS => ?_)
    refine pf_X5_118 X hP hD hS (f_X5_get sz mo E (mpc E) (4 : Int32)) dX5_instruction_32 (fun H locs hP hD hS => ?_)
    refine lv_aload_n hx hb dX5_instruction_35 rfl (lv_at hl 0 rfl) ?_
    refine lv_aload_n hx hb dX5_instruction_36 rfl (lv_at hl 0 rfl) ?_
    refine gf_X5_118 X hP dX5_instruction_37 ?_
    refine tw_eqi (y := (f_X5_get sz mo E (mpc E) (4 : Int32))) (gs_mword_word _ _) ?_
    refine lv_bipush (v := (7 : Int32)) hx hb dX5_instruction_40 (by decide) ?_
    refine lv_ishr hx hb dX5_instruction_42 ?_
    refine lv_bipush (v := (31 : Int32)) hx hb dX5_instruction_43 (by decide) ?_
    refine lv_iand hx hb dX5_instruction_45 ?_
    refine pf_X5_124 X hP hD hS (((f_X5_get sz mo E (mpc E) (4 : Int32)) >>> ((7 : Int32) &&& 31)) &&& (31 : Int32)) dX5_instruction_46 (fun H locs hP hD hS => ?_)
    refine lv_aload_n hx hb dX5_instruction_49 rfl (lv_at hl 0 rfl) ?_
    refine lv_aload_n hx hb dX5_instruction_50 rfl (lv_at hl 0 rfl) ?_
    refine gf_X5_118 X hP dX5_instruction_51 ?_
    refine tw_eqi (y := (f_X5_get sz mo E (mpc E) (4 : Int32))) (Eq.trans (gs_mword_d _ _) (gs_mword_word _ _)) ?_
    refine lv_bipush (v := (12 : Int32)) hx hb dX5_instruction_54 (by decide) ?_
    refine lv_ishr hx hb dX5_instruction_56 ?_
    refine lv_bipush (v := (7 : Int32)) hx hb dX5_instruction_57 (by decide) ?_
    refine lv_iand hx hb dX5_instruction_59 ?_
    refine pf_X5_127 X hP hD hS (((f_X5_get sz mo E (mpc E) (4 : Int32)) >>> ((12 : Int32) &&& 31)) &&& (7 : Int32)) dX5_instruction_60 (fun H locs hP hD hS => ?_)
    refine lv_aload_n hx hb dX5_instruction_63 rfl (lv_at hl 0 rfl) ?_
    refine lv_aload_n hx hb dX5_instruction_64 rfl (lv_at hl 0 rfl) ?_
    refine gf_X5_118 X hP dX5_instruction_65 ?_
    refine tw_eqi (y := (f_X5_get sz mo E (mpc E) (4 : Int32))) (Eq.trans (gs_mword_f _ _) (Eq.trans (gs_mword_d _ _) (gs_mword_word _ _))) ?_
    refine lv_bipush (v := (15 : Int32)) hx hb dX5_instruction_68 (by decide) ?_
    refine lv_ishr hx hb dX5_instruction_70 ?_
    refine lv_bipush (v := (31 : Int32)) hx hb dX5_instruction_71 (by decide) ?_
    refine lv_iand hx hb dX5_instruction_73 ?_
    refine pf_X5_130 X hP hD hS (((f_X5_get sz mo E (mpc E) (4 : Int32)) >>> ((15 : Int32) &&& 31)) &&& (31 : Int32)) dX5_instruction_74 (fun H locs hP hD hS => ?_)
    refine lv_aload_n hx hb dX5_instruction_77 rfl (lv_at hl 0 rfl) ?_
    refine lv_aload_n hx hb dX5_instruction_78 rfl (lv_at hl 0 rfl) ?_
    refine gf_X5_118 X hP dX5_instruction_79 ?_
    refine tw_eqi (y := (f_X5_get sz mo E (mpc E) (4 : Int32))) (Eq.trans (gs_mword_s _ _) (Eq.trans (gs_mword_f _ _) (Eq.trans (gs_mword_d _ _) (gs_mword_word _ _)))) ?_
    refine lv_bipush (v := (20 : Int32)) hx hb dX5_instruction_82 (by decide) ?_
    refine lv_ishr hx hb dX5_instruction_84 ?_
    refine lv_bipush (v := (31 : Int32)) hx hb dX5_instruction_85 (by decide) ?_
    refine lv_iand hx hb dX5_instruction_87 ?_
    refine pf_X5_133 X hP hD hS (((f_X5_get sz mo E (mpc E) (4 : Int32)) >>> ((20 : Int32) &&& 31)) &&& (31 : Int32)) dX5_instruction_88 (fun H locs hP hD hS => ?_)
    refine lv_aload_n hx hb dX5_instruction_91 rfl (lv_at hl 0 rfl) ?_
    refine lv_aload_n hx hb dX5_instruction_92 rfl (lv_at hl 0 rfl) ?_
    refine gf_X5_118 X hP dX5_instruction_93 ?_
    refine tw_eqi (y := (f_X5_get sz mo E (mpc E) (4 : Int32))) (Eq.trans (gs_mword_t _ _) (Eq.trans (gs_mword_s _ _) (Eq.trans (gs_mword_f _ _) (Eq.trans (gs_mword_d _ _) (gs_mword_word _ _))))) ?_
    refine lv_bipush (v := (25 : Int32)) hx hb dX5_instruction_96 (by decide) ?_
    refine lv_ishr hx hb dX5_instruction_98 ?_
    refine lv_bipush (v := (127 : Int32)) hx hb dX5_instruction_99 (by decide) ?_
    refine lv_iand hx hb dX5_instruction_101 ?_
    refine pf_X5_136 X hP hD hS (((f_X5_get sz mo E (mpc E) (4 : Int32)) >>> ((25 : Int32) &&& 31)) &&& (127 : Int32)) dX5_instruction_102 (fun H locs hP hD hS => ?_)
    refine lv_aload_n hx hb dX5_instruction_105 rfl (lv_at hl 0 rfl) ?_
    refine lv_aload_n hx hb dX5_instruction_106 rfl (lv_at hl 0 rfl) ?_
    refine gf_X5_30 X hP dX5_instruction_107 ?_
    refine tw_eqi (y := (mpc E)) (Eq.trans (gs_mpc_g _ _) (Eq.trans (gs_mpc_t _ _) (Eq.trans (gs_mpc_s _ _) (Eq.trans (gs_mpc_f _ _) (Eq.trans (gs_mpc_d _ _) (gs_mpc_word _ _)))))) ?_
    refine lv_iconst (v := (4 : Int32)) hx hb dX5_instruction_110 (by decide) ?_
    refine lv_iadd hx hb dX5_instruction_111 ?_
    refine pf_X5_139 X hP hD hS ((mpc E) + (4 : Int32)) dX5_instruction_112 (fun H locs hP hD hS => ?_)
    refine lv_aload_n hx hb dX5_instruction_115 rfl (lv_at hl 0 rfl) ?_
    refine go_i (rn_V (ci := 5) (q0 := 0) X (c_X5_work l D q ca sz mo hk (mnext_ (mg_ (mt_ (ms_ (mf_ (md_ (mword_ E (f_X5_get sz mo E (mpc E) (4 : Int32))) (((f_X5_get sz mo E (mpc E) (4 : Int32)) >>> ((7 : Int32) &&& 31)) &&& (31 : Int32))) (((f_X5_get sz mo E (mpc E) (4 : Int32)) >>> ((12 : Int32) &&& 31)) &&& (7 : Int32))) (((f_X5_get sz mo E (mpc E) (4 : Int32)) >>> ((15 : Int32) &&& 31)) &&& (31 : Int32))) (((f_X5_get sz mo E (mpc E) (4 : Int32)) >>> ((20 : Int32) &&& 31)) &&& (31 : Int32))) (((f_X5_get sz mo E (mpc E) (4 : Int32)) >>> ((25 : Int32) &&& 31)) &&& (127 : Int32))) ((mpc E) + (4 : Int32))) (dec_ok (pk_andIn _ 5 rfl (by decide)) (pk_andIn _ 3 rfl (by decide)) (pk_andIn _ 5 rfl (by decide)) (pk_andIn _ 5 rfl (by decide))) (mSnt_of (Eq.trans (gs_msentMany_next _ _) (Eq.trans (gs_msentMany_g _ _) (Eq.trans (gs_msentMany_t _ _) (Eq.trans (gs_msentMany_s _ _) (Eq.trans (gs_msentMany_f _ _) (Eq.trans (gs_msentMany_d _ _) (gs_msentMany_word _ _))))))) hs)) ok_X5_work wd_604 ⟨by decide, by decide⟩ hP hD rfl rfl rfl hl.1 rfl (Nat.le_of_ble_eq_true rfl) dX5_instruction_116 ⟨Nat.zero_le _, Nat.zero_le _⟩) hP hD hS hA (fun H locs hP hD hS => ?_)
    refine lv_istore_n (lv' := [(1, .int (f_X5_work sz mo (mnext_ (mg_ (mt_ (ms_ (mf_ (md_ (mword_ E (f_X5_get sz mo E (mpc E) (4 : Int32))) (((f_X5_get sz mo E (mpc E) (4 : Int32)) >>> ((7 : Int32) &&& 31)) &&& (31 : Int32))) (((f_X5_get sz mo E (mpc E) (4 : Int32)) >>> ((12 : Int32) &&& 31)) &&& (7 : Int32))) (((f_X5_get sz mo E (mpc E) (4 : Int32)) >>> ((15 : Int32) &&& 31)) &&& (31 : Int32))) (((f_X5_get sz mo E (mpc E) (4 : Int32)) >>> ((20 : Int32) &&& 31)) &&& (31 : Int32))) (((f_X5_get sz mo E (mpc E) (4 : Int32)) >>> ((25 : Int32) &&& 31)) &&& (127 : Int32))) ((mpc E) + (4 : Int32)))).1), (0, .ref (q 0))]) hx hb dX5_instruction_119 rfl hl (by decide) rfl (fun ls hl => ?_)
    refine lv_iload_n hx hb dX5_instruction_120 rfl (lv_at hl 0 rfl) ?_
    refine lv_iconst (v := (-1 : Int32)) hx hb dX5_instruction_121 (by decide) ?_
    refine lv_icmp_eq (tgt := 127) hx hb dX5_instruction_122 (by decide) (fun c_2 => ?_) (fun c_2 => ?_)
    ·
      refine lv_aload_n hx hb dX5_instruction_127 rfl (lv_at hl 1 rfl) ?_
      refine lv_aload_n hx hb dX5_instruction_128 rfl (lv_at hl 1 rfl) ?_
      refine gf_X5_139 X hP dX5_instruction_129 ?_
      refine pf_X5_30 X hP hD hS (mnext (f_X5_work sz mo (mnext_ (mg_ (mt_ (ms_ (mf_ (md_ (mword_ E (f_X5_get sz mo E (mpc E) (4 : Int32))) (((f_X5_get sz mo E (mpc E) (4 : Int32)) >>> ((7 : Int32) &&& 31)) &&& (31 : Int32))) (((f_X5_get sz mo E (mpc E) (4 : Int32)) >>> ((12 : Int32) &&& 31)) &&& (7 : Int32))) (((f_X5_get sz mo E (mpc E) (4 : Int32)) >>> ((15 : Int32) &&& 31)) &&& (31 : Int32))) (((f_X5_get sz mo E (mpc E) (4 : Int32)) >>> ((20 : Int32) &&& 31)) &&& (31 : Int32))) (((f_X5_get sz mo E (mpc E) (4 : Int32)) >>> ((25 : Int32) &&& 31)) &&& (127 : Int32))) ((mpc E) + (4 : Int32)))).2) dX5_instruction_132 (fun H locs hP hD hS => ?_)
      refine lv_iconst (v := (0 : Int32)) hx hb dX5_instruction_135 (by decide) ?_
      exact rmu_i (v := (0 : Int32)) (F := (f_X5_instruction sz mo E)) (E1 := (mpc_ (f_X5_work sz mo (mnext_ (mg_ (mt_ (ms_ (mf_ (md_ (mword_ E (f_X5_get sz mo E (mpc E) (4 : Int32))) (((f_X5_get sz mo E (mpc E) (4 : Int32)) >>> ((7 : Int32) &&& 31)) &&& (31 : Int32))) (((f_X5_get sz mo E (mpc E) (4 : Int32)) >>> ((12 : Int32) &&& 31)) &&& (7 : Int32))) (((f_X5_get sz mo E (mpc E) (4 : Int32)) >>> ((15 : Int32) &&& 31)) &&& (31 : Int32))) (((f_X5_get sz mo E (mpc E) (4 : Int32)) >>> ((20 : Int32) &&& 31)) &&& (31 : Int32))) (((f_X5_get sz mo E (mpc E) (4 : Int32)) >>> ((25 : Int32) &&& 31)) &&& (127 : Int32))) ((mpc E) + (4 : Int32)))).2 (mnext (f_X5_work sz mo (mnext_ (mg_ (mt_ (ms_ (mf_ (md_ (mword_ E (f_X5_get sz mo E (mpc E) (4 : Int32))) (((f_X5_get sz mo E (mpc E) (4 : Int32)) >>> ((7 : Int32) &&& 31)) &&& (31 : Int32))) (((f_X5_get sz mo E (mpc E) (4 : Int32)) >>> ((12 : Int32) &&& 31)) &&& (7 : Int32))) (((f_X5_get sz mo E (mpc E) (4 : Int32)) >>> ((15 : Int32) &&& 31)) &&& (31 : Int32))) (((f_X5_get sz mo E (mpc E) (4 : Int32)) >>> ((20 : Int32) &&& 31)) &&& (31 : Int32))) (((f_X5_get sz mo E (mpc E) (4 : Int32)) >>> ((25 : Int32) &&& 31)) &&& (127 : Int32))) ((mpc E) + (4 : Int32)))).2))) (by unfold f_X5_instruction; rw [if_neg c_1, if_pos c_2]; try rfl) X hP hD hS hAe hr hlk dX5_instruction_136
    ·
      refine lv_iload_n hx hb dX5_instruction_125 rfl (lv_at hl 0 rfl) ?_
      exact rmu_i (v := (f_X5_work sz mo (mnext_ (mg_ (mt_ (ms_ (mf_ (md_ (mword_ E (f_X5_get sz mo E (mpc E) (4 : Int32))) (((f_X5_get sz mo E (mpc E) (4 : Int32)) >>> ((7 : Int32) &&& 31)) &&& (31 : Int32))) (((f_X5_get sz mo E (mpc E) (4 : Int32)) >>> ((12 : Int32) &&& 31)) &&& (7 : Int32))) (((f_X5_get sz mo E (mpc E) (4 : Int32)) >>> ((15 : Int32) &&& 31)) &&& (31 : Int32))) (((f_X5_get sz mo E (mpc E) (4 : Int32)) >>> ((20 : Int32) &&& 31)) &&& (31 : Int32))) (((f_X5_get sz mo E (mpc E) (4 : Int32)) >>> ((25 : Int32) &&& 31)) &&& (127 : Int32))) ((mpc E) + (4 : Int32)))).1) (F := (f_X5_instruction sz mo E)) (E1 := (f_X5_work sz mo (mnext_ (mg_ (mt_ (ms_ (mf_ (md_ (mword_ E (f_X5_get sz mo E (mpc E) (4 : Int32))) (((f_X5_get sz mo E (mpc E) (4 : Int32)) >>> ((7 : Int32) &&& 31)) &&& (31 : Int32))) (((f_X5_get sz mo E (mpc E) (4 : Int32)) >>> ((12 : Int32) &&& 31)) &&& (7 : Int32))) (((f_X5_get sz mo E (mpc E) (4 : Int32)) >>> ((15 : Int32) &&& 31)) &&& (31 : Int32))) (((f_X5_get sz mo E (mpc E) (4 : Int32)) >>> ((20 : Int32) &&& 31)) &&& (31 : Int32))) (((f_X5_get sz mo E (mpc E) (4 : Int32)) >>> ((25 : Int32) &&& 31)) &&& (127 : Int32))) ((mpc E) + (4 : Int32)))).2) (by unfold f_X5_instruction; rw [if_neg c_1, if_neg c_2]; try rfl) X hP hD hS hAe hr hlk dX5_instruction_126
  ·
    refine lv_aload_n hx hb dX5_instruction_12 rfl (lv_at hl 0 rfl) ?_
    refine lv_iconst (v := (1 : Int32)) hx hb dX5_instruction_13 (by decide) ?_
    refine lv_aload_n hx hb dX5_instruction_14 rfl (lv_at hl 0 rfl) ?_
    refine gf_X5_30 X hP dX5_instruction_15 ?_
    refine go_i (rn_V (ci := 5) (q0 := 0) X (c_X5_trap l D q ca sz mo hk E (1 : Int32) (mpc E)) ok_X5_trap wd_592 ⟨by decide, by decide⟩ hP hD rfl rfl rfl hl.1 rfl (Nat.le_of_ble_eq_true rfl) dX5_instruction_18 ⟨Nat.zero_le _, Nat.zero_le _⟩) hP hD hS hA (fun H locs hP hD hS => ?_)
    exact rmu_i (v := (f_X5_trap sz mo E (1 : Int32) (mpc E)).1) (F := (f_X5_instruction sz mo E)) (E1 := (f_X5_trap sz mo E (1 : Int32) (mpc E)).2) (by unfold f_X5_instruction; rw [if_pos c_1]; try rfl) X hP hD hS hAe hr hlk dX5_instruction_21
set_option maxHeartbeats 4000000 in
set_option maxRecDepth 100000 in
theorem c_X5_once (l : Launch) (D : va_G) (q : Nat → Nat) (ca : Nat → ClassId) (sz mo : Int32) (hk : MOk sz mo) (E : MS) (hs : mSnt mo E) : Mt l yX5_once cX5_once 4 (some .int) 5 D (tysM ca) [.ref (q 0)] (cwM q ca sz mo E) (QcI D (cwM q ca sz mo E) (cwM q ca sz mo (f_X5_once sz mo E).2) (f_X5_once sz mo E).1) := by
  refine ent (own := RX5) rfl (by decide) (Nat.le_of_ble_eq_true rfl) ?_
  intro p e s m below meth c A ls X hr hlk hmn hAe hA hP hD hS hl
  have hx := X.1.1
  have hb := X.1.2.1
  have hl : lv_has ls 4 [(0, .ref (q 0))] := hl
  refine lv_aload_n hx hb dX5_once_0 rfl (lv_at hl 0 rfl) ?_
  refine lv_sipush (v := (836 : Int32)) hx hb dX5_once_1 (by decide) ?_
  refine go_i (rn_V (ci := 5) (q0 := 0) X (c_X5_csr l D q ca sz mo hk E (836 : Int32)) ok_X5_csr wd_590 ⟨by decide, by decide⟩ hP hD rfl rfl rfl hl.1 rfl (Nat.le_of_ble_eq_true rfl) dX5_once_4 ⟨Nat.zero_le _, Nat.zero_le _⟩) hP hD hS hA (fun H locs hP hD hS => ?_)
  refine lv_aload_n hx hb dX5_once_7 rfl (lv_at hl 0 rfl) ?_
  refine gf_X5_40 X hP dX5_once_8 ?_
  refine lv_iand hx hb dX5_once_11 ?_
  refine lv_istore_n (lv' := [(1, .int ((f_X5_csr sz mo E (836 : Int32)) &&& (mmieBits E))), (0, .ref (q 0))]) hx hb dX5_once_12 rfl hl (by decide) rfl (fun ls hl => ?_)
  refine lv_iload_n hx hb dX5_once_13 rfl (lv_at hl 0 rfl) ?_
  refine lv_sipush (v := (128 : Int32)) hx hb dX5_once_14 (by decide) ?_
  refine lv_iand hx hb dX5_once_17 ?_
  refine lv_if_eq (tgt := 80) hx hb dX5_once_18 (by decide) (fun c_1 => ?_) (fun c_1 => ?_)
  ·
    refine lv_aload_n hx hb dX5_once_80 rfl (lv_at hl 1 rfl) ?_
    refine gf_X5_73 X hP dX5_once_81 ?_
    refine lv_if_eq (tgt := 93) hx hb dX5_once_84 (by decide) (fun c_2 => ?_) (fun c_2 => ?_)
    ·
      refine lv_aload_n hx hb dX5_once_93 rfl (lv_at hl 1 rfl) ?_
      refine gf_X5_73 X hP dX5_once_94 ?_
      refine lv_istore_n (lv' := [(2, .int (b2i (mwaits E))), (1, .int ((f_X5_csr sz mo E (836 : Int32)) &&& (mmieBits E))), (0, .ref (q 0))]) hx hb dX5_once_97 rfl hl (by decide) rfl (fun ls hl => ?_)
      refine lv_aload_n hx hb dX5_once_98 rfl (lv_at hl 2 rfl) ?_
      refine lv_iconst (v := (0 : Int32)) hx hb dX5_once_99 (by decide) ?_
      refine pf_X5_73 X hP hD hS false dX5_once_100 (fun H locs hP hD hS => ?_)
      refine lv_aload_n hx hb dX5_once_103 rfl (lv_at hl 2 rfl) ?_
      refine go_i (rn_V (ci := 5) (q0 := 0) X (c_X5_instruction l D q ca sz mo hk (mwaits_ E false) hs) ok_X5_instruction wd_596 ⟨by decide, by decide⟩ hP hD rfl rfl rfl hl.1 rfl (Nat.le_of_ble_eq_true rfl) dX5_once_104 ⟨Nat.zero_le _, Nat.zero_le _⟩) hP hD hS hA (fun H locs hP hD hS => ?_)
      refine lv_istore_n (lv' := [(3, .int (f_X5_instruction sz mo (mwaits_ E false)).1), (2, .int (b2i (mwaits E))), (1, .int ((f_X5_csr sz mo E (836 : Int32)) &&& (mmieBits E))), (0, .ref (q 0))]) hx hb dX5_once_107 rfl hl (by decide) rfl (fun ls hl => ?_)
      refine lv_aload_n hx hb dX5_once_108 rfl (lv_at hl 3 rfl) ?_
      refine lv_iload_n hx hb dX5_once_109 rfl (lv_at hl 0 rfl) ?_
      refine lv_iconst (v := (4 : Int32)) hx hb dX5_once_110 (by decide) ?_
      refine lv_icmp_ne (tgt := 118) hx hb dX5_once_111 (by decide) (fun c_3 => ?_) (fun c_3 => ?_)
      ·
        refine lv_aload_n hx hb dX5_once_118 rfl (lv_at hl 3 rfl) ?_
        refine gf_X5_73 X hP dX5_once_119 ?_
        refine pf_X5_73 X hP hD hS (mwaits (f_X5_instruction sz mo (mwaits_ E false)).2) dX5_once_122 (fun H locs hP hD hS => ?_)
        refine lv_iload_n hx hb dX5_once_125 rfl (lv_at hl 0 rfl) ?_
        exact rmu_i (v := (f_X5_instruction sz mo (mwaits_ E false)).1) (F := (f_X5_once sz mo E)) (E1 := (mwaits_ (f_X5_instruction sz mo (mwaits_ E false)).2 (mwaits (f_X5_instruction sz mo (mwaits_ E false)).2))) (by unfold f_X5_once; rw [if_pos c_1, if_pos c_2, if_neg c_3]; try rfl) X hP hD hS hAe hr hlk dX5_once_126
      ·
        refine lv_iload_n hx hb dX5_once_114 rfl (lv_at hl 1 rfl) ?_
        refine lv_goto (tgt := 122) hx hb dX5_once_115 (by decide) ?_
        refine pf_X5_73 X hP hD hS (mwaits E) dX5_once_122 (fun H locs hP hD hS => ?_)
        refine lv_iload_n hx hb dX5_once_125 rfl (lv_at hl 0 rfl) ?_
        exact rmu_i (v := (f_X5_instruction sz mo (mwaits_ E false)).1) (F := (f_X5_once sz mo E)) (E1 := (mwaits_ (f_X5_instruction sz mo (mwaits_ E false)).2 (mwaits E))) (by unfold f_X5_once; rw [if_pos c_1, if_pos c_2, if_pos c_3]; try rfl) X hP hD hS hAe hr hlk dX5_once_126
    ·
      refine lv_iload_n hx hb dX5_once_87 rfl (lv_at hl 0 rfl) ?_
      refine lv_if_ne (tgt := 93) hx hb dX5_once_88 (by decide) (fun c_4 => ?_) (fun c_4 => ?_)
      ·
        refine lv_aload_n hx hb dX5_once_93 rfl (lv_at hl 1 rfl) ?_
        refine gf_X5_73 X hP dX5_once_94 ?_
        refine lv_istore_n (lv' := [(2, .int (b2i (mwaits E))), (1, .int ((f_X5_csr sz mo E (836 : Int32)) &&& (mmieBits E))), (0, .ref (q 0))]) hx hb dX5_once_97 rfl hl (by decide) rfl (fun ls hl => ?_)
        refine lv_aload_n hx hb dX5_once_98 rfl (lv_at hl 2 rfl) ?_
        refine lv_iconst (v := (0 : Int32)) hx hb dX5_once_99 (by decide) ?_
        refine pf_X5_73 X hP hD hS false dX5_once_100 (fun H locs hP hD hS => ?_)
        refine lv_aload_n hx hb dX5_once_103 rfl (lv_at hl 2 rfl) ?_
        refine go_i (rn_V (ci := 5) (q0 := 0) X (c_X5_instruction l D q ca sz mo hk (mwaits_ E false) hs) ok_X5_instruction wd_596 ⟨by decide, by decide⟩ hP hD rfl rfl rfl hl.1 rfl (Nat.le_of_ble_eq_true rfl) dX5_once_104 ⟨Nat.zero_le _, Nat.zero_le _⟩) hP hD hS hA (fun H locs hP hD hS => ?_)
        refine lv_istore_n (lv' := [(3, .int (f_X5_instruction sz mo (mwaits_ E false)).1), (2, .int (b2i (mwaits E))), (1, .int ((f_X5_csr sz mo E (836 : Int32)) &&& (mmieBits E))), (0, .ref (q 0))]) hx hb dX5_once_107 rfl hl (by decide) rfl (fun ls hl => ?_)
        refine lv_aload_n hx hb dX5_once_108 rfl (lv_at hl 3 rfl) ?_
        refine lv_iload_n hx hb dX5_once_109 rfl (lv_at hl 0 rfl) ?_
        refine lv_iconst (v := (4 : Int32)) hx hb dX5_once_110 (by decide) ?_
        refine lv_icmp_ne (tgt := 118) hx hb dX5_once_111 (by decide) (fun c_5 => ?_) (fun c_5 => ?_)
        ·
          refine lv_aload_n hx hb dX5_once_118 rfl (lv_at hl 3 rfl) ?_
          refine gf_X5_73 X hP dX5_once_119 ?_
          refine pf_X5_73 X hP hD hS (mwaits (f_X5_instruction sz mo (mwaits_ E false)).2) dX5_once_122 (fun H locs hP hD hS => ?_)
          refine lv_iload_n hx hb dX5_once_125 rfl (lv_at hl 0 rfl) ?_
          exact rmu_i (v := (f_X5_instruction sz mo (mwaits_ E false)).1) (F := (f_X5_once sz mo E)) (E1 := (mwaits_ (f_X5_instruction sz mo (mwaits_ E false)).2 (mwaits (f_X5_instruction sz mo (mwaits_ E false)).2))) (by unfold f_X5_once; rw [if_pos c_1, if_neg c_2, if_neg c_4, if_neg c_5]; try rfl) X hP hD hS hAe hr hlk dX5_once_126
        ·
          refine lv_iload_n hx hb dX5_once_114 rfl (lv_at hl 1 rfl) ?_
          refine lv_goto (tgt := 122) hx hb dX5_once_115 (by decide) ?_
          refine pf_X5_73 X hP hD hS (mwaits E) dX5_once_122 (fun H locs hP hD hS => ?_)
          refine lv_iload_n hx hb dX5_once_125 rfl (lv_at hl 0 rfl) ?_
          exact rmu_i (v := (f_X5_instruction sz mo (mwaits_ E false)).1) (F := (f_X5_once sz mo E)) (E1 := (mwaits_ (f_X5_instruction sz mo (mwaits_ E false)).2 (mwaits E))) (by unfold f_X5_once; rw [if_pos c_1, if_neg c_2, if_neg c_4, if_pos c_5]; try rfl) X hP hD hS hAe hr hlk dX5_once_126
      ·
        refine lv_iconst (v := (3 : Int32)) hx hb dX5_once_91 (by decide) ?_
        exact rmu_i (v := (3 : Int32)) (F := (f_X5_once sz mo E)) (E1 := E) (by unfold f_X5_once; rw [if_pos c_1, if_neg c_2, if_pos c_4]; try rfl) X hP hD hS hAe hr hlk dX5_once_92
  ·
    refine lv_aload_n hx hb dX5_once_21 rfl (lv_at hl 1 rfl) ?_
    refine gf_X5_33 X hP dX5_once_22 ?_
    refine lv_if_eq (tgt := 80) hx hb dX5_once_25 (by decide) (fun c_6 => ?_) (fun c_6 => ?_)
    ·
      refine lv_aload_n hx hb dX5_once_80 rfl (lv_at hl 1 rfl) ?_
      refine gf_X5_73 X hP dX5_once_81 ?_
      refine lv_if_eq (tgt := 93) hx hb dX5_once_84 (by decide) (fun c_7 => ?_) (fun c_7 => ?_)
      ·
        refine lv_aload_n hx hb dX5_once_93 rfl (lv_at hl 1 rfl) ?_
        refine gf_X5_73 X hP dX5_once_94 ?_
        refine lv_istore_n (lv' := [(2, .int (b2i (mwaits E))), (1, .int ((f_X5_csr sz mo E (836 : Int32)) &&& (mmieBits E))), (0, .ref (q 0))]) hx hb dX5_once_97 rfl hl (by decide) rfl (fun ls hl => ?_)
        refine lv_aload_n hx hb dX5_once_98 rfl (lv_at hl 2 rfl) ?_
        refine lv_iconst (v := (0 : Int32)) hx hb dX5_once_99 (by decide) ?_
        refine pf_X5_73 X hP hD hS false dX5_once_100 (fun H locs hP hD hS => ?_)
        refine lv_aload_n hx hb dX5_once_103 rfl (lv_at hl 2 rfl) ?_
        refine go_i (rn_V (ci := 5) (q0 := 0) X (c_X5_instruction l D q ca sz mo hk (mwaits_ E false) hs) ok_X5_instruction wd_596 ⟨by decide, by decide⟩ hP hD rfl rfl rfl hl.1 rfl (Nat.le_of_ble_eq_true rfl) dX5_once_104 ⟨Nat.zero_le _, Nat.zero_le _⟩) hP hD hS hA (fun H locs hP hD hS => ?_)
        refine lv_istore_n (lv' := [(3, .int (f_X5_instruction sz mo (mwaits_ E false)).1), (2, .int (b2i (mwaits E))), (1, .int ((f_X5_csr sz mo E (836 : Int32)) &&& (mmieBits E))), (0, .ref (q 0))]) hx hb dX5_once_107 rfl hl (by decide) rfl (fun ls hl => ?_)
        refine lv_aload_n hx hb dX5_once_108 rfl (lv_at hl 3 rfl) ?_
        refine lv_iload_n hx hb dX5_once_109 rfl (lv_at hl 0 rfl) ?_
        refine lv_iconst (v := (4 : Int32)) hx hb dX5_once_110 (by decide) ?_
        refine lv_icmp_ne (tgt := 118) hx hb dX5_once_111 (by decide) (fun c_8 => ?_) (fun c_8 => ?_)
        ·
          refine lv_aload_n hx hb dX5_once_118 rfl (lv_at hl 3 rfl) ?_
          refine gf_X5_73 X hP dX5_once_119 ?_
          refine pf_X5_73 X hP hD hS (mwaits (f_X5_instruction sz mo (mwaits_ E false)).2) dX5_once_122 (fun H locs hP hD hS => ?_)
          refine lv_iload_n hx hb dX5_once_125 rfl (lv_at hl 0 rfl) ?_
          exact rmu_i (v := (f_X5_instruction sz mo (mwaits_ E false)).1) (F := (f_X5_once sz mo E)) (E1 := (mwaits_ (f_X5_instruction sz mo (mwaits_ E false)).2 (mwaits (f_X5_instruction sz mo (mwaits_ E false)).2))) (by unfold f_X5_once; rw [if_neg c_1, if_pos c_6, if_pos c_7, if_neg c_8]; try rfl) X hP hD hS hAe hr hlk dX5_once_126
        ·
          refine lv_iload_n hx hb dX5_once_114 rfl (lv_at hl 1 rfl) ?_
          refine lv_goto (tgt := 122) hx hb dX5_once_115 (by decide) ?_
          refine pf_X5_73 X hP hD hS (mwaits E) dX5_once_122 (fun H locs hP hD hS => ?_)
          refine lv_iload_n hx hb dX5_once_125 rfl (lv_at hl 0 rfl) ?_
          exact rmu_i (v := (f_X5_instruction sz mo (mwaits_ E false)).1) (F := (f_X5_once sz mo E)) (E1 := (mwaits_ (f_X5_instruction sz mo (mwaits_ E false)).2 (mwaits E))) (by unfold f_X5_once; rw [if_neg c_1, if_pos c_6, if_pos c_7, if_pos c_8]; try rfl) X hP hD hS hAe hr hlk dX5_once_126
      ·
        refine lv_iload_n hx hb dX5_once_87 rfl (lv_at hl 0 rfl) ?_
        refine lv_if_ne (tgt := 93) hx hb dX5_once_88 (by decide) (fun c_9 => ?_) (fun c_9 => ?_)
        ·
          refine lv_aload_n hx hb dX5_once_93 rfl (lv_at hl 1 rfl) ?_
          refine gf_X5_73 X hP dX5_once_94 ?_
          refine lv_istore_n (lv' := [(2, .int (b2i (mwaits E))), (1, .int ((f_X5_csr sz mo E (836 : Int32)) &&& (mmieBits E))), (0, .ref (q 0))]) hx hb dX5_once_97 rfl hl (by decide) rfl (fun ls hl => ?_)
          refine lv_aload_n hx hb dX5_once_98 rfl (lv_at hl 2 rfl) ?_
          refine lv_iconst (v := (0 : Int32)) hx hb dX5_once_99 (by decide) ?_
          refine pf_X5_73 X hP hD hS false dX5_once_100 (fun H locs hP hD hS => ?_)
          refine lv_aload_n hx hb dX5_once_103 rfl (lv_at hl 2 rfl) ?_
          refine go_i (rn_V (ci := 5) (q0 := 0) X (c_X5_instruction l D q ca sz mo hk (mwaits_ E false) hs) ok_X5_instruction wd_596 ⟨by decide, by decide⟩ hP hD rfl rfl rfl hl.1 rfl (Nat.le_of_ble_eq_true rfl) dX5_once_104 ⟨Nat.zero_le _, Nat.zero_le _⟩) hP hD hS hA (fun H locs hP hD hS => ?_)
          refine lv_istore_n (lv' := [(3, .int (f_X5_instruction sz mo (mwaits_ E false)).1), (2, .int (b2i (mwaits E))), (1, .int ((f_X5_csr sz mo E (836 : Int32)) &&& (mmieBits E))), (0, .ref (q 0))]) hx hb dX5_once_107 rfl hl (by decide) rfl (fun ls hl => ?_)
          refine lv_aload_n hx hb dX5_once_108 rfl (lv_at hl 3 rfl) ?_
          refine lv_iload_n hx hb dX5_once_109 rfl (lv_at hl 0 rfl) ?_
          refine lv_iconst (v := (4 : Int32)) hx hb dX5_once_110 (by decide) ?_
          refine lv_icmp_ne (tgt := 118) hx hb dX5_once_111 (by decide) (fun c_10 => ?_) (fun c_10 => ?_)
          ·
            refine lv_aload_n hx hb dX5_once_118 rfl (lv_at hl 3 rfl) ?_
            refine gf_X5_73 X hP dX5_once_119 ?_
            refine pf_X5_73 X hP hD hS (mwaits (f_X5_instruction sz mo (mwaits_ E false)).2) dX5_once_122 (fun H locs hP hD hS => ?_)
            refine lv_iload_n hx hb dX5_once_125 rfl (lv_at hl 0 rfl) ?_
            exact rmu_i (v := (f_X5_instruction sz mo (mwaits_ E false)).1) (F := (f_X5_once sz mo E)) (E1 := (mwaits_ (f_X5_instruction sz mo (mwaits_ E false)).2 (mwaits (f_X5_instruction sz mo (mwaits_ E false)).2))) (by unfold f_X5_once; rw [if_neg c_1, if_pos c_6, if_neg c_7, if_neg c_9, if_neg c_10]; try rfl) X hP hD hS hAe hr hlk dX5_once_126
          ·
            refine lv_iload_n hx hb dX5_once_114 rfl (lv_at hl 1 rfl) ?_
            refine lv_goto (tgt := 122) hx hb dX5_once_115 (by decide) ?_
            refine pf_X5_73 X hP hD hS (mwaits E) dX5_once_122 (fun H locs hP hD hS => ?_)
            refine lv_iload_n hx hb dX5_once_125 rfl (lv_at hl 0 rfl) ?_
            exact rmu_i (v := (f_X5_instruction sz mo (mwaits_ E false)).1) (F := (f_X5_once sz mo E)) (E1 := (mwaits_ (f_X5_instruction sz mo (mwaits_ E false)).2 (mwaits E))) (by unfold f_X5_once; rw [if_neg c_1, if_pos c_6, if_neg c_7, if_neg c_9, if_pos c_10]; try rfl) X hP hD hS hAe hr hlk dX5_once_126
        ·
          refine lv_iconst (v := (3 : Int32)) hx hb dX5_once_91 (by decide) ?_
          exact rmu_i (v := (3 : Int32)) (F := (f_X5_once sz mo E)) (E1 := E) (by unfold f_X5_once; rw [if_neg c_1, if_pos c_6, if_neg c_7, if_pos c_9]; try rfl) X hP hD hS hAe hr hlk dX5_once_92
    ·
      refine lv_aload_n hx hb dX5_once_28 rfl (lv_at hl 1 rfl) ?_
      refine lv_ldc (v := (-2147483641 : Int32)) hx hb X.1.2.2.2.1 (X.1.2.2.2.2 _ wd_591) dX5_once_29 ?_
      refine lv_iconst (v := (0 : Int32)) hx hb dX5_once_31 (by decide) ?_
      refine go_i (rn_V (ci := 5) (q0 := 0) X (c_X5_trap l D q ca sz mo hk E (-2147483641 : Int32) (0 : Int32)) ok_X5_trap wd_592 ⟨by decide, by decide⟩ hP hD rfl rfl rfl hl.1 rfl (Nat.le_of_ble_eq_true rfl) dX5_once_32 ⟨Nat.zero_le _, Nat.zero_le _⟩) hP hD hS hA (fun H locs hP hD hS => ?_)
      refine lv_istore_n (lv' := [(2, .int (f_X5_trap sz mo E (-2147483641 : Int32) (0 : Int32)).1), (1, .int ((f_X5_csr sz mo E (836 : Int32)) &&& (mmieBits E))), (0, .ref (q 0))]) hx hb dX5_once_35 rfl hl (by decide) rfl (fun ls hl => ?_)
      refine lv_aload_n hx hb dX5_once_36 rfl (lv_at hl 2 rfl) ?_
      refine lv_aload_n hx hb dX5_once_37 rfl (lv_at hl 2 rfl) ?_
      refine gf_X5_43 X hP dX5_once_38 ?_
      refine lv_iconst (v := (1 : Int32)) hx hb dX5_once_41 (by decide) ?_
      refine lv_iand hx hb dX5_once_42 ?_
      refine lv_iconst (v := (1 : Int32)) hx hb dX5_once_43 (by decide) ?_
      refine lv_icmp_ne (tgt := 57) hx hb dX5_once_44 (by decide) (fun c_11 => ?_) (fun c_11 => ?_)
      ·
        refine lv_aload_n hx hb dX5_once_57 rfl (lv_at hl 2 rfl) ?_
        refine gf_X5_30 X hP dX5_once_58 ?_
        refine pf_X5_30 X hP hD hS (mpc (f_X5_trap sz mo E (-2147483641 : Int32) (0 : Int32)).2) dX5_once_61 (fun H locs hP hD hS => ?_)
        refine lv_aload_n hx hb dX5_once_64 rfl (lv_at hl 2 rfl) ?_
        refine lv_iconst (v := (0 : Int32)) hx hb dX5_once_65 (by decide) ?_
        refine pf_X5_73 X hP hD hS false dX5_once_66 (fun H locs hP hD hS => ?_)
        refine lv_iload_n hx hb dX5_once_69 rfl (lv_at hl 0 rfl) ?_
        refine lv_iconst (v := (1 : Int32)) hx hb dX5_once_70 (by decide) ?_
        refine lv_icmp_ne (tgt := 78) hx hb dX5_once_71 (by decide) (fun c_12 => ?_) (fun c_12 => ?_)
        ·
          refine lv_iload_n hx hb dX5_once_78 rfl (lv_at hl 0 rfl) ?_
          exact rmu_i (v := (f_X5_trap sz mo E (-2147483641 : Int32) (0 : Int32)).1) (F := (f_X5_once sz mo E)) (E1 := (mwaits_ (mpc_ (f_X5_trap sz mo E (-2147483641 : Int32) (0 : Int32)).2 (mpc (f_X5_trap sz mo E (-2147483641 : Int32) (0 : Int32)).2)) false)) (by unfold f_X5_once; rw [if_neg c_1, if_neg c_6, if_neg c_11, if_neg c_12]; try rfl) X hP hD hS hAe hr hlk dX5_once_79
        ·
          refine lv_iconst (v := (2 : Int32)) hx hb dX5_once_74 (by decide) ?_
          refine lv_goto (tgt := 79) hx hb dX5_once_75 (by decide) ?_
          exact rmu_i (v := (2 : Int32)) (F := (f_X5_once sz mo E)) (E1 := (mwaits_ (mpc_ (f_X5_trap sz mo E (-2147483641 : Int32) (0 : Int32)).2 (mpc (f_X5_trap sz mo E (-2147483641 : Int32) (0 : Int32)).2)) false)) (by unfold f_X5_once; rw [if_neg c_1, if_neg c_6, if_neg c_11, if_pos c_12]; try rfl) X hP hD hS hAe hr hlk dX5_once_79
      ·
        refine lv_aload_n hx hb dX5_once_47 rfl (lv_at hl 2 rfl) ?_
        refine gf_X5_30 X hP dX5_once_48 ?_
        refine lv_bipush (v := (28 : Int32)) hx hb dX5_once_51 (by decide) ?_
        refine lv_iadd hx hb dX5_once_53 ?_
        refine lv_goto (tgt := 61) hx hb dX5_once_54 (by decide) ?_
        refine pf_X5_30 X hP hD hS ((mpc (f_X5_trap sz mo E (-2147483641 : Int32) (0 : Int32)).2) + (28 : Int32)) dX5_once_61 (fun H locs hP hD hS => ?_)
        refine lv_aload_n hx hb dX5_once_64 rfl (lv_at hl 2 rfl) ?_
        refine lv_iconst (v := (0 : Int32)) hx hb dX5_once_65 (by decide) ?_
        refine pf_X5_73 X hP hD hS false dX5_once_66 (fun H locs hP hD hS => ?_)
        refine lv_iload_n hx hb dX5_once_69 rfl (lv_at hl 0 rfl) ?_
        refine lv_iconst (v := (1 : Int32)) hx hb dX5_once_70 (by decide) ?_
        refine lv_icmp_ne (tgt := 78) hx hb dX5_once_71 (by decide) (fun c_13 => ?_) (fun c_13 => ?_)
        ·
          refine lv_iload_n hx hb dX5_once_78 rfl (lv_at hl 0 rfl) ?_
          exact rmu_i (v := (f_X5_trap sz mo E (-2147483641 : Int32) (0 : Int32)).1) (F := (f_X5_once sz mo E)) (E1 := (mwaits_ (mpc_ (f_X5_trap sz mo E (-2147483641 : Int32) (0 : Int32)).2 ((mpc (f_X5_trap sz mo E (-2147483641 : Int32) (0 : Int32)).2) + (28 : Int32))) false)) (by unfold f_X5_once; rw [if_neg c_1, if_neg c_6, if_pos c_11, if_neg c_13]; try rfl) X hP hD hS hAe hr hlk dX5_once_79
        ·
          refine lv_iconst (v := (2 : Int32)) hx hb dX5_once_74 (by decide) ?_
          refine lv_goto (tgt := 79) hx hb dX5_once_75 (by decide) ?_
          exact rmu_i (v := (2 : Int32)) (F := (f_X5_once sz mo E)) (E1 := (mwaits_ (mpc_ (f_X5_trap sz mo E (-2147483641 : Int32) (0 : Int32)).2 ((mpc (f_X5_trap sz mo E (-2147483641 : Int32) (0 : Int32)).2) + (28 : Int32))) false)) (by unfold f_X5_once; rw [if_neg c_1, if_neg c_6, if_pos c_11, if_pos c_13]; try rfl) X hP hD hS hAe hr hlk dX5_once_79
set_option maxHeartbeats 4000000 in
set_option maxRecDepth 100000 in
theorem c_X5_step (l : Launch) (D : va_G) (q : Nat → Nat) (ca : Nat → ClassId) (sz mo : Int32) (hk : MOk sz mo) (E : MS) (hs : mSnt mo E) : Mt l yX5_step cX5_step 1 (some .int) 6 D (tysM ca) [.ref (q 0)] (cwM q ca sz mo E) (QcI D (cwM q ca sz mo E) (cwM q ca sz mo (f_X5_step sz mo E).2) (f_X5_step sz mo E).1) := by
  refine ent (own := RX5) rfl (by decide) (Nat.le_of_ble_eq_true rfl) ?_
  intro p e s m below meth c A ls X hr hlk hmn hAe hA hP hD hS hl
  have hx := X.1.1
  have hb := X.1.2.1
  have hl : lv_has ls 1 [(0, .ref (q 0))] := hl
  refine lv_aload_n hx hb dX5_step_0 rfl (lv_at hl 0 rfl) ?_
  refine lv_aload_n hx hb dX5_step_1 rfl (lv_at hl 0 rfl) ?_
  refine go_i (rn_V (ci := 5) (q0 := 0) X (c_X5_once l D q ca sz mo hk E hs) ok_X5_once wd_586 ⟨by decide, by decide⟩ hP hD rfl rfl rfl hl.1 rfl (Nat.le_of_ble_eq_true rfl) dX5_step_2 ⟨Nat.zero_le _, Nat.zero_le _⟩) hP hD hS hA (fun H locs hP hD hS => ?_)
  refine pf_X5_76 X hP hD hS (f_X5_once sz mo E).1 dX5_step_5 (fun H locs hP hD hS => ?_)
  refine lv_aload_n hx hb dX5_step_8 rfl (lv_at hl 0 rfl) ?_
  refine lv_aload_n hx hb dX5_step_9 rfl (lv_at hl 0 rfl) ?_
  refine gf_X5_76 X hP dX5_step_10 ?_
  refine tw_eqi (y := (f_X5_once sz mo E).1) (gs_mlatest_latest _ _) ?_
  refine lv_if_ne (tgt := 25) hx hb dX5_step_13 (by decide) (fun c_1 => ?_) (fun c_1 => ?_)
  ·
    refine lv_aload_n hx hb dX5_step_25 rfl (lv_at hl 0 rfl) ?_
    refine gf_X5_70 X hP dX5_step_26 ?_
    refine tw_eql (y := (mretired (f_X5_once sz mo E).2)) (gs_mretired_latest _ _) ?_
    refine pf_X5_70 X hP hD hS (mretired (f_X5_once sz mo E).2) dX5_step_29 (fun H locs hP hD hS => ?_)
    refine lv_aload_n hx hb dX5_step_32 rfl (lv_at hl 0 rfl) ?_
    refine gf_X5_76 X hP dX5_step_33 ?_
    refine tw_eqi (y := (f_X5_once sz mo E).1) (Eq.trans (gs_mlatest_retired _ _) (gs_mlatest_latest _ _)) ?_
    exact rmu_i (v := (f_X5_once sz mo E).1) (F := (f_X5_step sz mo E)) (E1 := (mretired_ (mlatest_ (f_X5_once sz mo E).2 (f_X5_once sz mo E).1) (mretired (f_X5_once sz mo E).2))) (by unfold f_X5_step; rw [if_neg c_1]; try rfl) X hP hD hS hAe hr hlk dX5_step_36
  ·
    refine lv_aload_n hx hb dX5_step_16 rfl (lv_at hl 0 rfl) ?_
    refine gf_X5_70 X hP dX5_step_17 ?_
    refine tw_eql (y := (mretired (f_X5_once sz mo E).2)) (gs_mretired_latest _ _) ?_
    refine lv_lconst (v := (1 : Int64)) hx hb dX5_step_20 (by decide) ?_
    refine lv_ladd hx hb dX5_step_21 ?_
    refine lv_goto (tgt := 29) hx hb dX5_step_22 (by decide) ?_
    refine pf_X5_70 X hP hD hS ((mretired (f_X5_once sz mo E).2) + (1 : Int64)) dX5_step_29 (fun H locs hP hD hS => ?_)
    refine lv_aload_n hx hb dX5_step_32 rfl (lv_at hl 0 rfl) ?_
    refine gf_X5_76 X hP dX5_step_33 ?_
    refine tw_eqi (y := (f_X5_once sz mo E).1) (Eq.trans (gs_mlatest_retired _ _) (gs_mlatest_latest _ _)) ?_
    exact rmu_i (v := (f_X5_once sz mo E).1) (F := (f_X5_step sz mo E)) (E1 := (mretired_ (mlatest_ (f_X5_once sz mo E).2 (f_X5_once sz mo E).1) ((mretired (f_X5_once sz mo E).2) + (1 : Int64)))) (by unfold f_X5_step; rw [if_pos c_1]; try rfl) X hP hD hS hAe hr hlk dX5_step_36
set_option maxHeartbeats 4000000 in
set_option maxRecDepth 100000 in
theorem c_X5_tick (l : Launch) (D : va_G) (q : Nat → Nat) (ca : Nat → ClassId) (sz mo : Int32) (hk : MOk sz mo) (E : MS) : Mt l yX5_tick cX5_tick 1 none 0 D (tysM ca) [.ref (q 0)] (cwM q ca sz mo E) (QcV D (cwM q ca sz mo E) (cwM q ca sz mo (f_X5_tick sz mo E))) := by
  refine ent (own := RX5) rfl (by decide) (Nat.le_of_ble_eq_true rfl) ?_
  intro p e s m below meth c A ls X hr hlk hmn hAe hA hP hD hS hl
  have hx := X.1.1
  have hb := X.1.2.1
  have hl : lv_has ls 1 [(0, .ref (q 0))] := hl
  refine lv_aload_n hx hb dX5_tick_0 rfl (lv_at hl 0 rfl) ?_
  refine lv_dup hx hb dX5_tick_1 rfl ?_
  refine gf_X5_58 X hP dX5_tick_2 ?_
  refine lv_lconst (v := (1 : Int64)) hx hb dX5_tick_5 (by decide) ?_
  refine lv_ladd hx hb dX5_tick_6 ?_
  refine pf_X5_58 X hP hD hS ((mtime E) + (1 : Int64)) dX5_tick_7 (fun H locs hP hD hS => ?_)
  exact rmu_v (F := (f_X5_tick sz mo E)) (E1 := (mtime_ E ((mtime E) + (1 : Int64)))) rfl X hP hD hS hAe hr hlk dX5_tick_10
set_option maxHeartbeats 4000000 in
set_option maxRecDepth 100000 in
theorem c_X5_told (l : Launch) (D : va_G) (q : Nat → Nat) (ca : Nat → ClassId) (sz mo : Int32) (hk : MOk sz mo) (E : MS) (a1 : Int32) : Mt l yX5_told cX5_told 2 (some .long) 0 D (tysM ca) [.ref (q 0), .int a1] (cwM q ca sz mo E) (QcL D (cwM q ca sz mo E) (cwM q ca sz mo E) (f_X5_told sz mo E a1)) := by
  refine ent (own := RX5) rfl (by decide) (Nat.le_of_ble_eq_true rfl) ?_
  intro p e s m below meth c A ls X hr hlk hmn hAe hA hP hD hS hl
  have hx := X.1.1
  have hb := X.1.2.1
  have hl : lv_has ls 2 [(0, .ref (q 0)), (1, .int a1)] := hl
  refine lv_iload_n hx hb dX5_told_0 rfl (lv_at hl 1 rfl) ?_
  by_cases c_1 : a1 = (0 : Int32)
  ·
    refine lv_tableIn (off := 35) (tgt := 36) hx hb dX5_told_1 (by rw [c_1]; decide) (by rw [c_1]; decide) (by rw [c_1]; decide) (by decide) ?_
    refine lv_aload_n hx hb dX5_told_36 rfl (lv_at hl 0 rfl) ?_
    refine gf_X5_58 X hP dX5_told_37 ?_
    exact rg_l (v := (mtime E)) (F := (f_X5_told sz mo E a1)) (by unfold f_X5_told; rw [if_pos c_1]; try rfl) X hP hD hS hAe hr hlk dX5_told_40
  by_cases c_2 : a1 = (1 : Int32)
  ·
    refine lv_tableIn (off := 40) (tgt := 41) hx hb dX5_told_1 (by rw [c_2]; decide) (by rw [c_2]; decide) (by rw [c_2]; decide) (by decide) ?_
    refine lv_aload_n hx hb dX5_told_41 rfl (lv_at hl 0 rfl) ?_
    refine gf_X5_64 X hP dX5_told_42 ?_
    exact rg_l (v := (mlimit E)) (F := (f_X5_told sz mo E a1)) (by unfold f_X5_told; rw [if_neg c_1, if_pos c_2]; try rfl) X hP hD hS hAe hr hlk dX5_told_45
  by_cases c_3 : a1 = (2 : Int32)
  ·
    refine lv_tableIn (off := 45) (tgt := 46) hx hb dX5_told_1 (by rw [c_3]; decide) (by rw [c_3]; decide) (by rw [c_3]; decide) (by decide) ?_
    refine lv_aload_n hx hb dX5_told_46 rfl (lv_at hl 0 rfl) ?_
    refine gf_X5_70 X hP dX5_told_47 ?_
    exact rg_l (v := (mretired E)) (F := (f_X5_told sz mo E a1)) (by unfold f_X5_told; rw [if_neg c_1, if_neg c_2, if_pos c_3]; try rfl) X hP hD hS hAe hr hlk dX5_told_50
  by_cases c_4 : a1 = (3 : Int32)
  ·
    refine lv_tableIn (off := 50) (tgt := 51) hx hb dX5_told_1 (by rw [c_4]; decide) (by rw [c_4]; decide) (by rw [c_4]; decide) (by decide) ?_
    refine lv_aload_n hx hb dX5_told_51 rfl (lv_at hl 0 rfl) ?_
    refine gf_X5_73 X hP dX5_told_52 ?_
    refine lv_if_eq (tgt := 62) hx hb dX5_told_55 (by decide) (fun c_5 => ?_) (fun c_5 => ?_)
    ·
      refine lv_lconst (v := (0 : Int64)) hx hb dX5_told_62 (by decide) ?_
      exact rg_l (v := (0 : Int64)) (F := (f_X5_told sz mo E a1)) (by unfold f_X5_told; rw [if_neg c_1, if_neg c_2, if_neg c_3, if_pos c_4, if_pos c_5]; try rfl) X hP hD hS hAe hr hlk dX5_told_63
    ·
      refine lv_lconst (v := (1 : Int64)) hx hb dX5_told_58 (by decide) ?_
      refine lv_goto (tgt := 63) hx hb dX5_told_59 (by decide) ?_
      exact rg_l (v := (1 : Int64)) (F := (f_X5_told sz mo E a1)) (by unfold f_X5_told; rw [if_neg c_1, if_neg c_2, if_neg c_3, if_pos c_4, if_neg c_5]; try rfl) X hP hD hS hAe hr hlk dX5_told_63
  by_cases c_6 : a1 = (4 : Int32)
  ·
    refine lv_tableIn (off := 63) (tgt := 64) hx hb dX5_told_1 (by rw [c_6]; decide) (by rw [c_6]; decide) (by rw [c_6]; decide) (by decide) ?_
    refine lv_aload_n hx hb dX5_told_64 rfl (lv_at hl 0 rfl) ?_
    refine gf_X5_76 X hP dX5_told_65 ?_
    refine lv_i2l (v := ((mlatest E)).toInt64) hx hb dX5_told_68 rfl ?_
    exact rg_l (v := ((mlatest E)).toInt64) (F := (f_X5_told sz mo E a1)) (by unfold f_X5_told; rw [if_neg c_1, if_neg c_2, if_neg c_3, if_neg c_4, if_pos c_6]; try rfl) X hP hD hS hAe hr hlk dX5_told_69
  refine lv_tableOut (tgt := 70) hx hb dX5_told_1 (by have := lv_neT (a := 0) c_1 (by decide); have := lv_neT (a := 1) c_2 (by decide); have := lv_neT (a := 2) c_3 (by decide); have := lv_neT (a := 3) c_4 (by decide); have := lv_neT (a := 4) c_6 (by decide); omega) (by decide) ?_
  refine lv_lconst (v := (0 : Int64)) hx hb dX5_told_70 (by decide) ?_
  exact rg_l (v := (0 : Int64)) (F := (f_X5_told sz mo E a1)) (by unfold f_X5_told; rw [if_neg c_1, if_neg c_2, if_neg c_3, if_neg c_4, if_neg c_6]; try rfl) X hP hD hS hAe hr hlk dX5_told_71
