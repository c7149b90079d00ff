/-! contracts: X5_illegal X5_isBelow X5_branch X5_isListed X5_setCsr -/
set_option maxHeartbeats 4000000 in
set_option maxRecDepth 100000 in
theorem c_X5_illegal (l : Launch) (D : va_G) (q : Nat → Nat) (ca : Nat → ClassId) (sz mo : Int32) (hk : MOk sz mo) (E : MS) : Mt l yX5_illegal cX5_illegal 1 (some .int) 1 D (tysM ca) [.ref (q 0)] (cwM q ca sz mo E) (QcI D (cwM q ca sz mo E) (cwM q ca sz mo (f_X5_illegal sz mo E).2) (f_X5_illegal sz mo E).1) := by
  refine ent (own := RX5) rfl (by decide) (Nat.le_of_ble_eq_true rfl) ?_
  intro p e s m below meth c A ls X hr hlk hmn hAe hA hP hD hS hl
  have hx := X.1.1
  have hb := X.1.2.1
  have hl : lv_has ls 1 [(0, .ref (q 0))] := hl
  refine lv_aload_n hx hb dX5_illegal_0 rfl (lv_at hl 0 rfl) ?_
  refine lv_iconst (v := (2 : Int32)) hx hb dX5_illegal_1 (by decide) ?_
  refine lv_aload_n hx hb dX5_illegal_2 rfl (lv_at hl 0 rfl) ?_
  refine gf_X5_118 X hP dX5_illegal_3 ?_
  refine go_i (rn_V (ci := 5) (q0 := 0) X (c_X5_trap l D q ca sz mo hk E (2 : Int32) (mword E)) ok_X5_trap wd_592 ⟨by decide, by decide⟩ hP hD rfl rfl rfl hl.1 rfl (Nat.le_of_ble_eq_true rfl) dX5_illegal_6 ⟨Nat.zero_le _, Nat.zero_le _⟩) hP hD hS hA (fun H locs hP hD hS => ?_)
  exact rmu_i (v := (f_X5_trap sz mo E (2 : Int32) (mword E)).1) (F := (f_X5_illegal sz mo E)) (E1 := (f_X5_trap sz mo E (2 : Int32) (mword E)).2) rfl X hP hD hS hAe hr hlk dX5_illegal_9
set_option maxHeartbeats 4000000 in
set_option maxRecDepth 100000 in
theorem c_X5_isBelow (l : Launch) (D : va_G) (tys : List (ClassId × FieldType)) (ws : va_W) (a1 : Int32) (a2 : Int32) : Mt l yX5_isBelow cX5_isBelow 2 (some .boolean) 0 D tys [.int a1, .int a2] ws (QcI D ws ws (b2i (f_X5_isBelow a1 a2))) := by
  refine ent (own := RX5) rfl (by decide) (Nat.le_of_ble_eq_true rfl) ?_
  intro p e s m below meth c A ls X hr hlk hmn hAe hA hP hD hS hl
  have hx := X.1.1
  have hb := X.1.2.1
  have hl : lv_has ls 2 [(0, .int a1), (1, .int a2)] := hl
  refine lv_iload_n hx hb dX5_isBelow_0 rfl (lv_at hl 0 rfl) ?_
  refine lv_ldc (v := (-2147483648 : Int32)) hx hb X.1.2.2.2.1 (X.1.2.2.2.2 _ wd_632) dX5_isBelow_1 ?_
  refine lv_ixor hx hb dX5_isBelow_3 ?_
  refine lv_iload_n hx hb dX5_isBelow_4 rfl (lv_at hl 1 rfl) ?_
  refine lv_ldc (v := (-2147483648 : Int32)) hx hb X.1.2.2.2.1 (X.1.2.2.2.2 _ wd_632) dX5_isBelow_5 ?_
  refine lv_ixor hx hb dX5_isBelow_7 ?_
  refine lv_icmp_ge (tgt := 15) hx hb dX5_isBelow_8 (by decide) (fun c_1 => ?_) (fun c_1 => ?_)
  ·
    refine lv_iconst (v := (0 : Int32)) hx hb dX5_isBelow_15 (by decide) ?_
    exact rg_z (v := false) (F := (f_X5_isBelow a1 a2)) (by unfold f_X5_isBelow; rw [if_pos c_1]; try rfl) X hP hD hS hAe hr hlk dX5_isBelow_16
  ·
    refine lv_iconst (v := (1 : Int32)) hx hb dX5_isBelow_11 (by decide) ?_
    refine lv_goto (tgt := 16) hx hb dX5_isBelow_12 (by decide) ?_
    exact rg_z (v := true) (F := (f_X5_isBelow a1 a2)) (by unfold f_X5_isBelow; rw [if_neg c_1]; try rfl) X hP hD hS hAe hr hlk dX5_isBelow_16
set_option maxHeartbeats 4000000 in
set_option maxRecDepth 100000 in
theorem c_X5_branch (l : Launch) (D : va_G) (q : Nat → Nat) (ca : Nat → ClassId) (sz mo : Int32) (hk : MOk sz mo) (E : MS) (hd : mDec E) : Mt l yX5_branch cX5_branch 5 (some .int) 2 D (tysM ca) [.ref (q 0)] (cwM q ca sz mo E) (QcI D (cwM q ca sz mo E) (cwM q ca sz mo (f_X5_branch sz mo E).2) (f_X5_branch sz mo E).1) := by
  refine ent (own := RX5) rfl (by decide) (Nat.le_of_ble_eq_true rfl) ?_
  intro p e s m below meth c A ls X hr hlk hmn hAe hA hP hD hS hl
  have hx := X.1.1
  have hb := X.1.2.1
  have hl : lv_has ls 5 [(0, .ref (q 0))] := hl
  refine lv_aload_n hx hb dX5_branch_0 rfl (lv_at hl 0 rfl) ?_
  refine gf_X5_14 X hP dX5_branch_1 ?_
  refine lv_aload_n hx hb dX5_branch_4 rfl (lv_at hl 0 rfl) ?_
  refine gf_X5_130 X hP dX5_branch_5 ?_
  refine mld_2 X hP hd.2.1 dX5_branch_8 ?_
  refine lv_istore_n (lv' := [(1, .int (mx E ((ms E)).toNatClampNeg)), (0, .ref (q 0))]) hx hb dX5_branch_9 rfl hl (by decide) rfl (fun ls hl => ?_)
  refine lv_aload_n hx hb dX5_branch_10 rfl (lv_at hl 1 rfl) ?_
  refine gf_X5_14 X hP dX5_branch_11 ?_
  refine lv_aload_n hx hb dX5_branch_14 rfl (lv_at hl 1 rfl) ?_
  refine gf_X5_133 X hP dX5_branch_15 ?_
  refine mld_2 X hP hd.2.2.1 dX5_branch_18 ?_
  refine lv_istore_n (lv' := [(2, .int (mx E ((mt E)).toNatClampNeg)), (1, .int (mx E ((ms E)).toNatClampNeg)), (0, .ref (q 0))]) hx hb dX5_branch_19 rfl hl (by decide) rfl (fun ls hl => ?_)
  refine lv_iconst (v := (0 : Int32)) hx hb dX5_branch_20 (by decide) ?_
  refine lv_istore_n (lv' := [(3, .int (0 : Int32)), (2, .int (mx E ((mt E)).toNatClampNeg)), (1, .int (mx E ((ms E)).toNatClampNeg)), (0, .ref (q 0))]) hx hb dX5_branch_21 rfl hl (by decide) rfl (fun ls hl => ?_)
  refine lv_aload_n hx hb dX5_branch_22 rfl (lv_at hl 3 rfl) ?_
  refine gf_X5_127 X hP dX5_branch_23 ?_
  by_cases c_1 : (mf E) = (0 : Int32)
  ·
    refine lv_tableIn (off := 46) (tgt := 72) hx hb dX5_branch_26 (by rw [c_1]; decide) (by rw [c_1]; decide) (by rw [c_1]; decide) (by decide) ?_
    refine lv_iload_n hx hb dX5_branch_72 rfl (lv_at hl 2 rfl) ?_
    refine lv_iload_n hx hb dX5_branch_73 rfl (lv_at hl 1 rfl) ?_
    refine lv_icmp_ne (tgt := 81) hx hb dX5_branch_74 (by decide) (fun c_2 => ?_) (fun c_2 => ?_)
    ·
      refine lv_iconst (v := (0 : Int32)) hx hb dX5_branch_81 (by decide) ?_
      refine lv_istore_n (lv' := [(3, .int (0 : Int32)), (2, .int (mx E ((mt E)).toNatClampNeg)), (1, .int (mx E ((ms E)).toNatClampNeg)), (0, .ref (q 0))]) hx hb dX5_branch_82 rfl hl (by decide) rfl (fun ls hl => ?_)
      refine lv_goto (tgt := 159) hx hb dX5_branch_83 (by decide) ?_
      refine lv_aload_n hx hb dX5_branch_159 rfl (lv_at hl 3 rfl) ?_
      refine gf_X5_118 X hP dX5_branch_160 ?_
      refine lv_bipush (v := (31 : Int32)) hx hb dX5_branch_163 (by decide) ?_
      refine lv_ishr hx hb dX5_branch_165 ?_
      refine lv_bipush (v := (12 : Int32)) hx hb dX5_branch_166 (by decide) ?_
      refine lv_ishl hx hb dX5_branch_168 ?_
      refine lv_aload_n hx hb dX5_branch_169 rfl (lv_at hl 3 rfl) ?_
      refine gf_X5_118 X hP dX5_branch_170 ?_
      refine lv_bipush (v := (7 : Int32)) hx hb dX5_branch_173 (by decide) ?_
      refine lv_ishr hx hb dX5_branch_175 ?_
      refine lv_iconst (v := (1 : Int32)) hx hb dX5_branch_176 (by decide) ?_
      refine lv_iand hx hb dX5_branch_177 ?_
      refine lv_bipush (v := (11 : Int32)) hx hb dX5_branch_178 (by decide) ?_
      refine lv_ishl hx hb dX5_branch_180 ?_
      refine lv_ior hx hb dX5_branch_181 ?_
      refine lv_aload_n hx hb dX5_branch_182 rfl (lv_at hl 3 rfl) ?_
      refine gf_X5_118 X hP dX5_branch_183 ?_
      refine lv_bipush (v := (25 : Int32)) hx hb dX5_branch_186 (by decide) ?_
      refine lv_ishr hx hb dX5_branch_188 ?_
      refine lv_bipush (v := (63 : Int32)) hx hb dX5_branch_189 (by decide) ?_
      refine lv_iand hx hb dX5_branch_191 ?_
      refine lv_iconst (v := (5 : Int32)) hx hb dX5_branch_192 (by decide) ?_
      refine lv_ishl hx hb dX5_branch_193 ?_
      refine lv_ior hx hb dX5_branch_194 ?_
      refine lv_aload_n hx hb dX5_branch_195 rfl (lv_at hl 3 rfl) ?_
      refine gf_X5_118 X hP dX5_branch_196 ?_
      refine lv_bipush (v := (8 : Int32)) hx hb dX5_branch_199 (by decide) ?_
      refine lv_ishr hx hb dX5_branch_201 ?_
      refine lv_bipush (v := (15 : Int32)) hx hb dX5_branch_202 (by decide) ?_
      refine lv_iand hx hb dX5_branch_204 ?_
      refine lv_iconst (v := (1 : Int32)) hx hb dX5_branch_205 (by decide) ?_
      refine lv_ishl hx hb dX5_branch_206 ?_
      refine lv_ior hx hb dX5_branch_207 ?_
      refine lv_istore (lv' := [(4, .int ((((((mword E) >>> ((31 : Int32) &&& 31)) <<< ((12 : Int32) &&& 31)) ||| ((((mword E) >>> ((7 : Int32) &&& 31)) &&& (1 : Int32)) <<< ((11 : Int32) &&& 31))) ||| ((((mword E) >>> ((25 : Int32) &&& 31)) &&& (63 : Int32)) <<< ((5 : Int32) &&& 31))) ||| ((((mword E) >>> ((8 : Int32) &&& 31)) &&& (15 : Int32)) <<< ((1 : Int32) &&& 31)))), (3, .int (0 : Int32)), (2, .int (mx E ((mt E)).toNatClampNeg)), (1, .int (mx E ((ms E)).toNatClampNeg)), (0, .ref (q 0))]) hx hb dX5_branch_208 hl (by decide) rfl (fun ls hl => ?_)
      refine lv_iload_n hx hb dX5_branch_210 rfl (lv_at hl 1 rfl) ?_
      refine lv_if_eq (tgt := 229) hx hb dX5_branch_211 (by decide) (fun _ => ?_) (fun h => absurd (by decide) h)
      refine lv_iconst (v := (-1 : Int32)) hx hb dX5_branch_229 (by decide) ?_
      exact rmu_i (v := (-1 : Int32)) (F := (f_X5_branch sz mo E)) (E1 := E) (by unfold f_X5_branch; rw [if_pos c_1, if_neg c_2]; try rfl) X hP hD hS hAe hr hlk dX5_branch_230
    ·
      refine lv_iconst (v := (1 : Int32)) hx hb dX5_branch_77 (by decide) ?_
      refine lv_goto (tgt := 82) hx hb dX5_branch_78 (by decide) ?_
      refine lv_istore_n (lv' := [(3, .int (1 : Int32)), (2, .int (mx E ((mt E)).toNatClampNeg)), (1, .int (mx E ((ms E)).toNatClampNeg)), (0, .ref (q 0))]) hx hb dX5_branch_82 rfl hl (by decide) rfl (fun ls hl => ?_)
      refine lv_goto (tgt := 159) hx hb dX5_branch_83 (by decide) ?_
      refine lv_aload_n hx hb dX5_branch_159 rfl (lv_at hl 3 rfl) ?_
      refine gf_X5_118 X hP dX5_branch_160 ?_
      refine lv_bipush (v := (31 : Int32)) hx hb dX5_branch_163 (by decide) ?_
      refine lv_ishr hx hb dX5_branch_165 ?_
      refine lv_bipush (v := (12 : Int32)) hx hb dX5_branch_166 (by decide) ?_
      refine lv_ishl hx hb dX5_branch_168 ?_
      refine lv_aload_n hx hb dX5_branch_169 rfl (lv_at hl 3 rfl) ?_
      refine gf_X5_118 X hP dX5_branch_170 ?_
      refine lv_bipush (v := (7 : Int32)) hx hb dX5_branch_173 (by decide) ?_
      refine lv_ishr hx hb dX5_branch_175 ?_
      refine lv_iconst (v := (1 : Int32)) hx hb dX5_branch_176 (by decide) ?_
      refine lv_iand hx hb dX5_branch_177 ?_
      refine lv_bipush (v := (11 : Int32)) hx hb dX5_branch_178 (by decide) ?_
      refine lv_ishl hx hb dX5_branch_180 ?_
      refine lv_ior hx hb dX5_branch_181 ?_
      refine lv_aload_n hx hb dX5_branch_182 rfl (lv_at hl 3 rfl) ?_
      refine gf_X5_118 X hP dX5_branch_183 ?_
      refine lv_bipush (v := (25 : Int32)) hx hb dX5_branch_186 (by decide) ?_
      refine lv_ishr hx hb dX5_branch_188 ?_
      refine lv_bipush (v := (63 : Int32)) hx hb dX5_branch_189 (by decide) ?_
      refine lv_iand hx hb dX5_branch_191 ?_
      refine lv_iconst (v := (5 : Int32)) hx hb dX5_branch_192 (by decide) ?_
      refine lv_ishl hx hb dX5_branch_193 ?_
      refine lv_ior hx hb dX5_branch_194 ?_
      refine lv_aload_n hx hb dX5_branch_195 rfl (lv_at hl 3 rfl) ?_
      refine gf_X5_118 X hP dX5_branch_196 ?_
      refine lv_bipush (v := (8 : Int32)) hx hb dX5_branch_199 (by decide) ?_
      refine lv_ishr hx hb dX5_branch_201 ?_
      refine lv_bipush (v := (15 : Int32)) hx hb dX5_branch_202 (by decide) ?_
      refine lv_iand hx hb dX5_branch_204 ?_
      refine lv_iconst (v := (1 : Int32)) hx hb dX5_branch_205 (by decide) ?_
      refine lv_ishl hx hb dX5_branch_206 ?_
      refine lv_ior hx hb dX5_branch_207 ?_
      refine lv_istore (lv' := [(4, .int ((((((mword E) >>> ((31 : Int32) &&& 31)) <<< ((12 : Int32) &&& 31)) ||| ((((mword E) >>> ((7 : Int32) &&& 31)) &&& (1 : Int32)) <<< ((11 : Int32) &&& 31))) ||| ((((mword E) >>> ((25 : Int32) &&& 31)) &&& (63 : Int32)) <<< ((5 : Int32) &&& 31))) ||| ((((mword E) >>> ((8 : Int32) &&& 31)) &&& (15 : Int32)) <<< ((1 : Int32) &&& 31)))), (3, .int (1 : Int32)), (2, .int (mx E ((mt E)).toNatClampNeg)), (1, .int (mx E ((ms E)).toNatClampNeg)), (0, .ref (q 0))]) hx hb dX5_branch_208 hl (by decide) rfl (fun ls hl => ?_)
      refine lv_iload_n hx hb dX5_branch_210 rfl (lv_at hl 1 rfl) ?_
      refine lv_if_eq (tgt := 229) hx hb dX5_branch_211 (by decide) (fun h => absurd h (by decide)) (fun _ => ?_)
      refine lv_aload_n hx hb dX5_branch_214 rfl (lv_at hl 4 rfl) ?_
      refine lv_aload_n hx hb dX5_branch_215 rfl (lv_at hl 4 rfl) ?_
      refine gf_X5_30 X hP dX5_branch_216 ?_
      refine lv_iload hx hb dX5_branch_219 (lv_at hl 0 rfl) ?_
      refine lv_iadd hx hb dX5_branch_221 ?_
      refine lv_iconst (v := (0 : Int32)) hx hb dX5_branch_222 (by decide) ?_
      refine go_i (rn_V (ci := 5) (q0 := 0) X (c_X5_goTo l D q ca sz mo hk E ((mpc E) + ((((((mword E) >>> ((31 : Int32) &&& 31)) <<< ((12 : Int32) &&& 31)) ||| ((((mword E) >>> ((7 : Int32) &&& 31)) &&& (1 : Int32)) <<< ((11 : Int32) &&& 31))) ||| ((((mword E) >>> ((25 : Int32) &&& 31)) &&& (63 : Int32)) <<< ((5 : Int32) &&& 31))) ||| ((((mword E) >>> ((8 : Int32) &&& 31)) &&& (15 : Int32)) <<< ((1 : Int32) &&& 31)))) false hd.1) ok_X5_goTo wd_613 ⟨by decide, by decide⟩ hP hD rfl rfl rfl hl.1 rfl (Nat.le_of_ble_eq_true rfl) dX5_branch_223 ⟨Nat.zero_le _, Nat.zero_le _⟩) hP hD hS hA (fun H locs hP hD hS => ?_)
      refine lv_goto (tgt := 230) hx hb dX5_branch_226 (by decide) ?_
      exact rmu_i (v := (f_X5_goTo sz mo E ((mpc E) + ((((((mword E) >>> ((31 : Int32) &&& 31)) <<< ((12 : Int32) &&& 31)) ||| ((((mword E) >>> ((7 : Int32) &&& 31)) &&& (1 : Int32)) <<< ((11 : Int32) &&& 31))) ||| ((((mword E) >>> ((25 : Int32) &&& 31)) &&& (63 : Int32)) <<< ((5 : Int32) &&& 31))) ||| ((((mword E) >>> ((8 : Int32) &&& 31)) &&& (15 : Int32)) <<< ((1 : Int32) &&& 31)))) false).1) (F := (f_X5_branch sz mo E)) (E1 := (f_X5_goTo sz mo E ((mpc E) + ((((((mword E) >>> ((31 : Int32) &&& 31)) <<< ((12 : Int32) &&& 31)) ||| ((((mword E) >>> ((7 : Int32) &&& 31)) &&& (1 : Int32)) <<< ((11 : Int32) &&& 31))) ||| ((((mword E) >>> ((25 : Int32) &&& 31)) &&& (63 : Int32)) <<< ((5 : Int32) &&& 31))) ||| ((((mword E) >>> ((8 : Int32) &&& 31)) &&& (15 : Int32)) <<< ((1 : Int32) &&& 31)))) false).2) (by unfold f_X5_branch; rw [if_pos c_1, if_pos c_2]; try rfl) X hP hD hS hAe hr hlk dX5_branch_230
  by_cases c_3 : (mf E) = (1 : Int32)
  ·
    refine lv_tableIn (off := 60) (tgt := 86) hx hb dX5_branch_26 (by rw [c_3]; decide) (by rw [c_3]; decide) (by rw [c_3]; decide) (by decide) ?_
    refine lv_iload_n hx hb dX5_branch_86 rfl (lv_at hl 2 rfl) ?_
    refine lv_iload_n hx hb dX5_branch_87 rfl (lv_at hl 1 rfl) ?_
    refine lv_icmp_eq (tgt := 95) hx hb dX5_branch_88 (by decide) (fun c_4 => ?_) (fun c_4 => ?_)
    ·
      refine lv_iconst (v := (0 : Int32)) hx hb dX5_branch_95 (by decide) ?_
      refine lv_istore_n (lv' := [(3, .int (0 : Int32)), (2, .int (mx E ((mt E)).toNatClampNeg)), (1, .int (mx E ((ms E)).toNatClampNeg)), (0, .ref (q 0))]) hx hb dX5_branch_96 rfl hl (by decide) rfl (fun ls hl => ?_)
      refine lv_goto (tgt := 159) hx hb dX5_branch_97 (by decide) ?_
      refine lv_aload_n hx hb dX5_branch_159 rfl (lv_at hl 3 rfl) ?_
      refine gf_X5_118 X hP dX5_branch_160 ?_
      refine lv_bipush (v := (31 : Int32)) hx hb dX5_branch_163 (by decide) ?_
      refine lv_ishr hx hb dX5_branch_165 ?_
      refine lv_bipush (v := (12 : Int32)) hx hb dX5_branch_166 (by decide) ?_
      refine lv_ishl hx hb dX5_branch_168 ?_
      refine lv_aload_n hx hb dX5_branch_169 rfl (lv_at hl 3 rfl) ?_
      refine gf_X5_118 X hP dX5_branch_170 ?_
      refine lv_bipush (v := (7 : Int32)) hx hb dX5_branch_173 (by decide) ?_
      refine lv_ishr hx hb dX5_branch_175 ?_
      refine lv_iconst (v := (1 : Int32)) hx hb dX5_branch_176 (by decide) ?_
      refine lv_iand hx hb dX5_branch_177 ?_
      refine lv_bipush (v := (11 : Int32)) hx hb dX5_branch_178 (by decide) ?_
      refine lv_ishl hx hb dX5_branch_180 ?_
      refine lv_ior hx hb dX5_branch_181 ?_
      refine lv_aload_n hx hb dX5_branch_182 rfl (lv_at hl 3 rfl) ?_
      refine gf_X5_118 X hP dX5_branch_183 ?_
      refine lv_bipush (v := (25 : Int32)) hx hb dX5_branch_186 (by decide) ?_
      refine lv_ishr hx hb dX5_branch_188 ?_
      refine lv_bipush (v := (63 : Int32)) hx hb dX5_branch_189 (by decide) ?_
      refine lv_iand hx hb dX5_branch_191 ?_
      refine lv_iconst (v := (5 : Int32)) hx hb dX5_branch_192 (by decide) ?_
      refine lv_ishl hx hb dX5_branch_193 ?_
      refine lv_ior hx hb dX5_branch_194 ?_
      refine lv_aload_n hx hb dX5_branch_195 rfl (lv_at hl 3 rfl) ?_
      refine gf_X5_118 X hP dX5_branch_196 ?_
      refine lv_bipush (v := (8 : Int32)) hx hb dX5_branch_199 (by decide) ?_
      refine lv_ishr hx hb dX5_branch_201 ?_
      refine lv_bipush (v := (15 : Int32)) hx hb dX5_branch_202 (by decide) ?_
      refine lv_iand hx hb dX5_branch_204 ?_
      refine lv_iconst (v := (1 : Int32)) hx hb dX5_branch_205 (by decide) ?_
      refine lv_ishl hx hb dX5_branch_206 ?_
      refine lv_ior hx hb dX5_branch_207 ?_
      refine lv_istore (lv' := [(4, .int ((((((mword E) >>> ((31 : Int32) &&& 31)) <<< ((12 : Int32) &&& 31)) ||| ((((mword E) >>> ((7 : Int32) &&& 31)) &&& (1 : Int32)) <<< ((11 : Int32) &&& 31))) ||| ((((mword E) >>> ((25 : Int32) &&& 31)) &&& (63 : Int32)) <<< ((5 : Int32) &&& 31))) ||| ((((mword E) >>> ((8 : Int32) &&& 31)) &&& (15 : Int32)) <<< ((1 : Int32) &&& 31)))), (3, .int (0 : Int32)), (2, .int (mx E ((mt E)).toNatClampNeg)), (1, .int (mx E ((ms E)).toNatClampNeg)), (0, .ref (q 0))]) hx hb dX5_branch_208 hl (by decide) rfl (fun ls hl => ?_)
      refine lv_iload_n hx hb dX5_branch_210 rfl (lv_at hl 1 rfl) ?_
      refine lv_if_eq (tgt := 229) hx hb dX5_branch_211 (by decide) (fun _ => ?_) (fun h => absurd (by decide) h)
      refine lv_iconst (v := (-1 : Int32)) hx hb dX5_branch_229 (by decide) ?_
      exact rmu_i (v := (-1 : Int32)) (F := (f_X5_branch sz mo E)) (E1 := E) (by unfold f_X5_branch; rw [if_neg c_1, if_pos c_3, if_pos c_4]; try rfl) X hP hD hS hAe hr hlk dX5_branch_230
    ·
      refine lv_iconst (v := (1 : Int32)) hx hb dX5_branch_91 (by decide) ?_
      refine lv_goto (tgt := 96) hx hb dX5_branch_92 (by decide) ?_
      refine lv_istore_n (lv' := [(3, .int (1 : Int32)), (2, .int (mx E ((mt E)).toNatClampNeg)), (1, .int (mx E ((ms E)).toNatClampNeg)), (0, .ref (q 0))]) hx hb dX5_branch_96 rfl hl (by decide) rfl (fun ls hl => ?_)
      refine lv_goto (tgt := 159) hx hb dX5_branch_97 (by decide) ?_
      refine lv_aload_n hx hb dX5_branch_159 rfl (lv_at hl 3 rfl) ?_
      refine gf_X5_118 X hP dX5_branch_160 ?_
      refine lv_bipush (v := (31 : Int32)) hx hb dX5_branch_163 (by decide) ?_
      refine lv_ishr hx hb dX5_branch_165 ?_
      refine lv_bipush (v := (12 : Int32)) hx hb dX5_branch_166 (by decide) ?_
      refine lv_ishl hx hb dX5_branch_168 ?_
      refine lv_aload_n hx hb dX5_branch_169 rfl (lv_at hl 3 rfl) ?_
      refine gf_X5_118 X hP dX5_branch_170 ?_
      refine lv_bipush (v := (7 : Int32)) hx hb dX5_branch_173 (by decide) ?_
      refine lv_ishr hx hb dX5_branch_175 ?_
      refine lv_iconst (v := (1 : Int32)) hx hb dX5_branch_176 (by decide) ?_
      refine lv_iand hx hb dX5_branch_177 ?_
      refine lv_bipush (v := (11 : Int32)) hx hb dX5_branch_178 (by decide) ?_
      refine lv_ishl hx hb dX5_branch_180 ?_
      refine lv_ior hx hb dX5_branch_181 ?_
      refine lv_aload_n hx hb dX5_branch_182 rfl (lv_at hl 3 rfl) ?_
      refine gf_X5_118 X hP dX5_branch_183 ?_
      refine lv_bipush (v := (25 : Int32)) hx hb dX5_branch_186 (by decide) ?_
      refine lv_ishr hx hb dX5_branch_188 ?_
      refine lv_bipush (v := (63 : Int32)) hx hb dX5_branch_189 (by decide) ?_
      refine lv_iand hx hb dX5_branch_191 ?_
      refine lv_iconst (v := (5 : Int32)) hx hb dX5_branch_192 (by decide) ?_
      refine lv_ishl hx hb dX5_branch_193 ?_
      refine lv_ior hx hb dX5_branch_194 ?_
      refine lv_aload_n hx hb dX5_branch_195 rfl (lv_at hl 3 rfl) ?_
      refine gf_X5_118 X hP dX5_branch_196 ?_
      refine lv_bipush (v := (8 : Int32)) hx hb dX5_branch_199 (by decide) ?_
      refine lv_ishr hx hb dX5_branch_201 ?_
      refine lv_bipush (v := (15 : Int32)) hx hb dX5_branch_202 (by decide) ?_
      refine lv_iand hx hb dX5_branch_204 ?_
      refine lv_iconst (v := (1 : Int32)) hx hb dX5_branch_205 (by decide) ?_
      refine lv_ishl hx hb dX5_branch_206 ?_
      refine lv_ior hx hb dX5_branch_207 ?_
      refine lv_istore (lv' := [(4, .int ((((((mword E) >>> ((31 : Int32) &&& 31)) <<< ((12 : Int32) &&& 31)) ||| ((((mword E) >>> ((7 : Int32) &&& 31)) &&& (1 : Int32)) <<< ((11 : Int32) &&& 31))) ||| ((((mword E) >>> ((25 : Int32) &&& 31)) &&& (63 : Int32)) <<< ((5 : Int32) &&& 31))) ||| ((((mword E) >>> ((8 : Int32) &&& 31)) &&& (15 : Int32)) <<< ((1 : Int32) &&& 31)))), (3, .int (1 : Int32)), (2, .int (mx E ((mt E)).toNatClampNeg)), (1, .int (mx E ((ms E)).toNatClampNeg)), (0, .ref (q 0))]) hx hb dX5_branch_208 hl (by decide) rfl (fun ls hl => ?_)
      refine lv_iload_n hx hb dX5_branch_210 rfl (lv_at hl 1 rfl) ?_
      refine lv_if_eq (tgt := 229) hx hb dX5_branch_211 (by decide) (fun h => absurd h (by decide)) (fun _ => ?_)
      refine lv_aload_n hx hb dX5_branch_214 rfl (lv_at hl 4 rfl) ?_
      refine lv_aload_n hx hb dX5_branch_215 rfl (lv_at hl 4 rfl) ?_
      refine gf_X5_30 X hP dX5_branch_216 ?_
      refine lv_iload hx hb dX5_branch_219 (lv_at hl 0 rfl) ?_
      refine lv_iadd hx hb dX5_branch_221 ?_
      refine lv_iconst (v := (0 : Int32)) hx hb dX5_branch_222 (by decide) ?_
      refine go_i (rn_V (ci := 5) (q0 := 0) X (c_X5_goTo l D q ca sz mo hk E ((mpc E) + ((((((mword E) >>> ((31 : Int32) &&& 31)) <<< ((12 : Int32) &&& 31)) ||| ((((mword E) >>> ((7 : Int32) &&& 31)) &&& (1 : Int32)) <<< ((11 : Int32) &&& 31))) ||| ((((mword E) >>> ((25 : Int32) &&& 31)) &&& (63 : Int32)) <<< ((5 : Int32) &&& 31))) ||| ((((mword E) >>> ((8 : Int32) &&& 31)) &&& (15 : Int32)) <<< ((1 : Int32) &&& 31)))) false hd.1) ok_X5_goTo wd_613 ⟨by decide, by decide⟩ hP hD rfl rfl rfl hl.1 rfl (Nat.le_of_ble_eq_true rfl) dX5_branch_223 ⟨Nat.zero_le _, Nat.zero_le _⟩) hP hD hS hA (fun H locs hP hD hS => ?_)
      refine lv_goto (tgt := 230) hx hb dX5_branch_226 (by decide) ?_
      exact rmu_i (v := (f_X5_goTo sz mo E ((mpc E) + ((((((mword E) >>> ((31 : Int32) &&& 31)) <<< ((12 : Int32) &&& 31)) ||| ((((mword E) >>> ((7 : Int32) &&& 31)) &&& (1 : Int32)) <<< ((11 : Int32) &&& 31))) ||| ((((mword E) >>> ((25 : Int32) &&& 31)) &&& (63 : Int32)) <<< ((5 : Int32) &&& 31))) ||| ((((mword E) >>> ((8 : Int32) &&& 31)) &&& (15 : Int32)) <<< ((1 : Int32) &&& 31)))) false).1) (F := (f_X5_branch sz mo E)) (E1 := (f_X5_goTo sz mo E ((mpc E) + ((((((mword E) >>> ((31 : Int32) &&& 31)) <<< ((12 : Int32) &&& 31)) ||| ((((mword E) >>> ((7 : Int32) &&& 31)) &&& (1 : Int32)) <<< ((11 : Int32) &&& 31))) ||| ((((mword E) >>> ((25 : Int32) &&& 31)) &&& (63 : Int32)) <<< ((5 : Int32) &&& 31))) ||| ((((mword E) >>> ((8 : Int32) &&& 31)) &&& (15 : Int32)) <<< ((1 : Int32) &&& 31)))) false).2) (by unfold f_X5_branch; rw [if_neg c_1, if_pos c_3, if_neg c_4]; try rfl) X hP hD hS hAe hr hlk dX5_branch_230
  by_cases c_5 : (mf E) = (2 : Int32)
  ·
    refine lv_tableIn (off := 128) (tgt := 154) hx hb dX5_branch_26 (by rw [c_5]; decide) (by rw [c_5]; decide) (by rw [c_5]; decide) (by decide) ?_
    refine lv_aload_n hx hb dX5_branch_154 rfl (lv_at hl 3 rfl) ?_
    refine go_i (rn_V (ci := 5) (q0 := 0) X (c_X5_illegal l D q ca sz mo hk E ) ok_X5_illegal wd_621 ⟨by decide, by decide⟩ hP hD rfl rfl rfl hl.1 rfl (Nat.le_of_ble_eq_true rfl) dX5_branch_155 ⟨Nat.zero_le _, Nat.zero_le _⟩) hP hD hS hA (fun H locs hP hD hS => ?_)
    exact rmu_i (v := (f_X5_illegal sz mo E).1) (F := (f_X5_branch sz mo E)) (E1 := (f_X5_illegal sz mo E).2) (by unfold f_X5_branch; rw [if_neg c_1, if_neg c_3, if_pos c_5]; try rfl) X hP hD hS hAe hr hlk dX5_branch_158
  by_cases c_6 : (mf E) = (3 : Int32)
  ·
    refine lv_tableIn (off := 128) (tgt := 154) hx hb dX5_branch_26 (by rw [c_6]; decide) (by rw [c_6]; decide) (by rw [c_6]; decide) (by decide) ?_
    refine lv_aload_n hx hb dX5_branch_154 rfl (lv_at hl 3 rfl) ?_
    refine go_i (rn_V (ci := 5) (q0 := 0) X (c_X5_illegal l D q ca sz mo hk E ) ok_X5_illegal wd_621 ⟨by decide, by decide⟩ hP hD rfl rfl rfl hl.1 rfl (Nat.le_of_ble_eq_true rfl) dX5_branch_155 ⟨Nat.zero_le _, Nat.zero_le _⟩) hP hD hS hA (fun H locs hP hD hS => ?_)
    exact rmu_i (v := (f_X5_illegal sz mo E).1) (F := (f_X5_branch sz mo E)) (E1 := (f_X5_illegal sz mo E).2) (by unfold f_X5_branch; rw [if_neg c_1, if_neg c_3, if_neg c_5, if_pos c_6]; try rfl) X hP hD hS hAe hr hlk dX5_branch_158
  by_cases c_7 : (mf E) = (4 : Int32)
  ·
    refine lv_tableIn (off := 74) (tgt := 100) hx hb dX5_branch_26 (by rw [c_7]; decide) (by rw [c_7]; decide) (by rw [c_7]; decide) (by decide) ?_
    refine lv_iload_n hx hb dX5_branch_100 rfl (lv_at hl 2 rfl) ?_
    refine lv_iload_n hx hb dX5_branch_101 rfl (lv_at hl 1 rfl) ?_
    refine lv_icmp_ge (tgt := 109) hx hb dX5_branch_102 (by decide) (fun c_8 => ?_) (fun c_8 => ?_)
    ·
      refine lv_iconst (v := (0 : Int32)) hx hb dX5_branch_109 (by decide) ?_
      refine lv_istore_n (lv' := [(3, .int (0 : Int32)), (2, .int (mx E ((mt E)).toNatClampNeg)), (1, .int (mx E ((ms E)).toNatClampNeg)), (0, .ref (q 0))]) hx hb dX5_branch_110 rfl hl (by decide) rfl (fun ls hl => ?_)
      refine lv_goto (tgt := 159) hx hb dX5_branch_111 (by decide) ?_
      refine lv_aload_n hx hb dX5_branch_159 rfl (lv_at hl 3 rfl) ?_
      refine gf_X5_118 X hP dX5_branch_160 ?_
      refine lv_bipush (v := (31 : Int32)) hx hb dX5_branch_163 (by decide) ?_
      refine lv_ishr hx hb dX5_branch_165 ?_
      refine lv_bipush (v := (12 : Int32)) hx hb dX5_branch_166 (by decide) ?_
      refine lv_ishl hx hb dX5_branch_168 ?_
      refine lv_aload_n hx hb dX5_branch_169 rfl (lv_at hl 3 rfl) ?_
      refine gf_X5_118 X hP dX5_branch_170 ?_
      refine lv_bipush (v := (7 : Int32)) hx hb dX5_branch_173 (by decide) ?_
      refine lv_ishr hx hb dX5_branch_175 ?_
      refine lv_iconst (v := (1 : Int32)) hx hb dX5_branch_176 (by decide) ?_
      refine lv_iand hx hb dX5_branch_177 ?_
      refine lv_bipush (v := (11 : Int32)) hx hb dX5_branch_178 (by decide) ?_
      refine lv_ishl hx hb dX5_branch_180 ?_
      refine lv_ior hx hb dX5_branch_181 ?_
      refine lv_aload_n hx hb dX5_branch_182 rfl (lv_at hl 3 rfl) ?_
      refine gf_X5_118 X hP dX5_branch_183 ?_
      refine lv_bipush (v := (25 : Int32)) hx hb dX5_branch_186 (by decide) ?_
      refine lv_ishr hx hb dX5_branch_188 ?_
      refine lv_bipush (v := (63 : Int32)) hx hb dX5_branch_189 (by decide) ?_
      refine lv_iand hx hb dX5_branch_191 ?_
      refine lv_iconst (v := (5 : Int32)) hx hb dX5_branch_192 (by decide) ?_
      refine lv_ishl hx hb dX5_branch_193 ?_
      refine lv_ior hx hb dX5_branch_194 ?_
      refine lv_aload_n hx hb dX5_branch_195 rfl (lv_at hl 3 rfl) ?_
      refine gf_X5_118 X hP dX5_branch_196 ?_
      refine lv_bipush (v := (8 : Int32)) hx hb dX5_branch_199 (by decide) ?_
      refine lv_ishr hx hb dX5_branch_201 ?_
      refine lv_bipush (v := (15 : Int32)) hx hb dX5_branch_202 (by decide) ?_
      refine lv_iand hx hb dX5_branch_204 ?_
      refine lv_iconst (v := (1 : Int32)) hx hb dX5_branch_205 (by decide) ?_
      refine lv_ishl hx hb dX5_branch_206 ?_
      refine lv_ior hx hb dX5_branch_207 ?_
      refine lv_istore (lv' := [(4, .int ((((((mword E) >>> ((31 : Int32) &&& 31)) <<< ((12 : Int32) &&& 31)) ||| ((((mword E) >>> ((7 : Int32) &&& 31)) &&& (1 : Int32)) <<< ((11 : Int32) &&& 31))) ||| ((((mword E) >>> ((25 : Int32) &&& 31)) &&& (63 : Int32)) <<< ((5 : Int32) &&& 31))) ||| ((((mword E) >>> ((8 : Int32) &&& 31)) &&& (15 : Int32)) <<< ((1 : Int32) &&& 31)))), (3, .int (0 : Int32)), (2, .int (mx E ((mt E)).toNatClampNeg)), (1, .int (mx E ((ms E)).toNatClampNeg)), (0, .ref (q 0))]) hx hb dX5_branch_208 hl (by decide) rfl (fun ls hl => ?_)
      refine lv_iload_n hx hb dX5_branch_210 rfl (lv_at hl 1 rfl) ?_
      refine lv_if_eq (tgt := 229) hx hb dX5_branch_211 (by decide) (fun _ => ?_) (fun h => absurd (by decide) h)
      refine lv_iconst (v := (-1 : Int32)) hx hb dX5_branch_229 (by decide) ?_
      exact rmu_i (v := (-1 : Int32)) (F := (f_X5_branch sz mo E)) (E1 := E) (by unfold f_X5_branch; rw [if_neg c_1, if_neg c_3, if_neg c_5, if_neg c_6, if_pos c_7, if_pos c_8]; try rfl) X hP hD hS hAe hr hlk dX5_branch_230
    ·
      refine lv_iconst (v := (1 : Int32)) hx hb dX5_branch_105 (by decide) ?_
      refine lv_goto (tgt := 110) hx hb dX5_branch_106 (by decide) ?_
      refine lv_istore_n (lv' := [(3, .int (1 : Int32)), (2, .int (mx E ((mt E)).toNatClampNeg)), (1, .int (mx E ((ms E)).toNatClampNeg)), (0, .ref (q 0))]) hx hb dX5_branch_110 rfl hl (by decide) rfl (fun ls hl => ?_)
      refine lv_goto (tgt := 159) hx hb dX5_branch_111 (by decide) ?_
      refine lv_aload_n hx hb dX5_branch_159 rfl (lv_at hl 3 rfl) ?_
      refine gf_X5_118 X hP dX5_branch_160 ?_
      refine lv_bipush (v := (31 : Int32)) hx hb dX5_branch_163 (by decide) ?_
      refine lv_ishr hx hb dX5_branch_165 ?_
      refine lv_bipush (v := (12 : Int32)) hx hb dX5_branch_166 (by decide) ?_
      refine lv_ishl hx hb dX5_branch_168 ?_
      refine lv_aload_n hx hb dX5_branch_169 rfl (lv_at hl 3 rfl) ?_
      refine gf_X5_118 X hP dX5_branch_170 ?_
      refine lv_bipush (v := (7 : Int32)) hx hb dX5_branch_173 (by decide) ?_
      refine lv_ishr hx hb dX5_branch_175 ?_
      refine lv_iconst (v := (1 : Int32)) hx hb dX5_branch_176 (by decide) ?_
      refine lv_iand hx hb dX5_branch_177 ?_
      refine lv_bipush (v := (11 : Int32)) hx hb dX5_branch_178 (by decide) ?_
      refine lv_ishl hx hb dX5_branch_180 ?_
      refine lv_ior hx hb dX5_branch_181 ?_
      refine lv_aload_n hx hb dX5_branch_182 rfl (lv_at hl 3 rfl) ?_
      refine gf_X5_118 X hP dX5_branch_183 ?_
      refine lv_bipush (v := (25 : Int32)) hx hb dX5_branch_186 (by decide) ?_
      refine lv_ishr hx hb dX5_branch_188 ?_
      refine lv_bipush (v := (63 : Int32)) hx hb dX5_branch_189 (by decide) ?_
      refine lv_iand hx hb dX5_branch_191 ?_
      refine lv_iconst (v := (5 : Int32)) hx hb dX5_branch_192 (by decide) ?_
      refine lv_ishl hx hb dX5_branch_193 ?_
      refine lv_ior hx hb dX5_branch_194 ?_
      refine lv_aload_n hx hb dX5_branch_195 rfl (lv_at hl 3 rfl) ?_
      refine gf_X5_118 X hP dX5_branch_196 ?_
      refine lv_bipush (v := (8 : Int32)) hx hb dX5_branch_199 (by decide) ?_
      refine lv_ishr hx hb dX5_branch_201 ?_
      refine lv_bipush (v := (15 : Int32)) hx hb dX5_branch_202 (by decide) ?_
      refine lv_iand hx hb dX5_branch_204 ?_
      refine lv_iconst (v := (1 : Int32)) hx hb dX5_branch_205 (by decide) ?_
      refine lv_ishl hx hb dX5_branch_206 ?_
      refine lv_ior hx hb dX5_branch_207 ?_
      refine lv_istore (lv' := [(4, .int ((((((mword E) >>> ((31 : Int32) &&& 31)) <<< ((12 : Int32) &&& 31)) ||| ((((mword E) >>> ((7 : Int32) &&& 31)) &&& (1 : Int32)) <<< ((11 : Int32) &&& 31))) ||| ((((mword E) >>> ((25 : Int32) &&& 31)) &&& (63 : Int32)) <<< ((5 : Int32) &&& 31))) ||| ((((mword E) >>> ((8 : Int32) &&& 31)) &&& (15 : Int32)) <<< ((1 : Int32) &&& 31)))), (3, .int (1 : Int32)), (2, .int (mx E ((mt E)).toNatClampNeg)), (1, .int (mx E ((ms E)).toNatClampNeg)), (0, .ref (q 0))]) hx hb dX5_branch_208 hl (by decide) rfl (fun ls hl => ?_)
      refine lv_iload_n hx hb dX5_branch_210 rfl (lv_at hl 1 rfl) ?_
      refine lv_if_eq (tgt := 229) hx hb dX5_branch_211 (by decide) (fun h => absurd h (by decide)) (fun _ => ?_)
      refine lv_aload_n hx hb dX5_branch_214 rfl (lv_at hl 4 rfl) ?_
      refine lv_aload_n hx hb dX5_branch_215 rfl (lv_at hl 4 rfl) ?_
      refine gf_X5_30 X hP dX5_branch_216 ?_
      refine lv_iload hx hb dX5_branch_219 (lv_at hl 0 rfl) ?_
      refine lv_iadd hx hb dX5_branch_221 ?_
      refine lv_iconst (v := (0 : Int32)) hx hb dX5_branch_222 (by decide) ?_
      refine go_i (rn_V (ci := 5) (q0 := 0) X (c_X5_goTo l D q ca sz mo hk E ((mpc E) + ((((((mword E) >>> ((31 : Int32) &&& 31)) <<< ((12 : Int32) &&& 31)) ||| ((((mword E) >>> ((7 : Int32) &&& 31)) &&& (1 : Int32)) <<< ((11 : Int32) &&& 31))) ||| ((((mword E) >>> ((25 : Int32) &&& 31)) &&& (63 : Int32)) <<< ((5 : Int32) &&& 31))) ||| ((((mword E) >>> ((8 : Int32) &&& 31)) &&& (15 : Int32)) <<< ((1 : Int32) &&& 31)))) false hd.1) ok_X5_goTo wd_613 ⟨by decide, by decide⟩ hP hD rfl rfl rfl hl.1 rfl (Nat.le_of_ble_eq_true rfl) dX5_branch_223 ⟨Nat.zero_le _, Nat.zero_le _⟩) hP hD hS hA (fun H locs hP hD hS => ?_)
      refine lv_goto (tgt := 230) hx hb dX5_branch_226 (by decide) ?_
      exact rmu_i (v := (f_X5_goTo sz mo E ((mpc E) + ((((((mword E) >>> ((31 : Int32) &&& 31)) <<< ((12 : Int32) &&& 31)) ||| ((((mword E) >>> ((7 : Int32) &&& 31)) &&& (1 : Int32)) <<< ((11 : Int32) &&& 31))) ||| ((((mword E) >>> ((25 : Int32) &&& 31)) &&& (63 : Int32)) <<< ((5 : Int32) &&& 31))) ||| ((((mword E) >>> ((8 : Int32) &&& 31)) &&& (15 : Int32)) <<< ((1 : Int32) &&& 31)))) false).1) (F := (f_X5_branch sz mo E)) (E1 := (f_X5_goTo sz mo E ((mpc E) + ((((((mword E) >>> ((31 : Int32) &&& 31)) <<< ((12 : Int32) &&& 31)) ||| ((((mword E) >>> ((7 : Int32) &&& 31)) &&& (1 : Int32)) <<< ((11 : Int32) &&& 31))) ||| ((((mword E) >>> ((25 : Int32) &&& 31)) &&& (63 : Int32)) <<< ((5 : Int32) &&& 31))) ||| ((((mword E) >>> ((8 : Int32) &&& 31)) &&& (15 : Int32)) <<< ((1 : Int32) &&& 31)))) false).2) (by unfold f_X5_branch; rw [if_neg c_1, if_neg c_3, if_neg c_5, if_neg c_6, if_pos c_7, if_neg c_8]; try rfl) X hP hD hS hAe hr hlk dX5_branch_230
  by_cases c_9 : (mf E) = (5 : Int32)
  ·
    refine lv_tableIn (off := 88) (tgt := 114) hx hb dX5_branch_26 (by rw [c_9]; decide) (by rw [c_9]; decide) (by rw [c_9]; decide) (by decide) ?_
    refine lv_iload_n hx hb dX5_branch_114 rfl (lv_at hl 2 rfl) ?_
    refine lv_iload_n hx hb dX5_branch_115 rfl (lv_at hl 1 rfl) ?_
    refine lv_icmp_lt (tgt := 123) hx hb dX5_branch_116 (by decide) (fun c_10 => ?_) (fun c_10 => ?_)
    ·
      refine lv_iconst (v := (0 : Int32)) hx hb dX5_branch_123 (by decide) ?_
      refine lv_istore_n (lv' := [(3, .int (0 : Int32)), (2, .int (mx E ((mt E)).toNatClampNeg)), (1, .int (mx E ((ms E)).toNatClampNeg)), (0, .ref (q 0))]) hx hb dX5_branch_124 rfl hl (by decide) rfl (fun ls hl => ?_)
      refine lv_goto (tgt := 159) hx hb dX5_branch_125 (by decide) ?_
      refine lv_aload_n hx hb dX5_branch_159 rfl (lv_at hl 3 rfl) ?_
      refine gf_X5_118 X hP dX5_branch_160 ?_
      refine lv_bipush (v := (31 : Int32)) hx hb dX5_branch_163 (by decide) ?_
      refine lv_ishr hx hb dX5_branch_165 ?_
      refine lv_bipush (v := (12 : Int32)) hx hb dX5_branch_166 (by decide) ?_
      refine lv_ishl hx hb dX5_branch_168 ?_
      refine lv_aload_n hx hb dX5_branch_169 rfl (lv_at hl 3 rfl) ?_
      refine gf_X5_118 X hP dX5_branch_170 ?_
      refine lv_bipush (v := (7 : Int32)) hx hb dX5_branch_173 (by decide) ?_
      refine lv_ishr hx hb dX5_branch_175 ?_
      refine lv_iconst (v := (1 : Int32)) hx hb dX5_branch_176 (by decide) ?_
      refine lv_iand hx hb dX5_branch_177 ?_
      refine lv_bipush (v := (11 : Int32)) hx hb dX5_branch_178 (by decide) ?_
      refine lv_ishl hx hb dX5_branch_180 ?_
      refine lv_ior hx hb dX5_branch_181 ?_
      refine lv_aload_n hx hb dX5_branch_182 rfl (lv_at hl 3 rfl) ?_
      refine gf_X5_118 X hP dX5_branch_183 ?_
      refine lv_bipush (v := (25 : Int32)) hx hb dX5_branch_186 (by decide) ?_
      refine lv_ishr hx hb dX5_branch_188 ?_
      refine lv_bipush (v := (63 : Int32)) hx hb dX5_branch_189 (by decide) ?_
      refine lv_iand hx hb dX5_branch_191 ?_
      refine lv_iconst (v := (5 : Int32)) hx hb dX5_branch_192 (by decide) ?_
      refine lv_ishl hx hb dX5_branch_193 ?_
      refine lv_ior hx hb dX5_branch_194 ?_
      refine lv_aload_n hx hb dX5_branch_195 rfl (lv_at hl 3 rfl) ?_
      refine gf_X5_118 X hP dX5_branch_196 ?_
      refine lv_bipush (v := (8 : Int32)) hx hb dX5_branch_199 (by decide) ?_
      refine lv_ishr hx hb dX5_branch_201 ?_
      refine lv_bipush (v := (15 : Int32)) hx hb dX5_branch_202 (by decide) ?_
      refine lv_iand hx hb dX5_branch_204 ?_
      refine lv_iconst (v := (1 : Int32)) hx hb dX5_branch_205 (by decide) ?_
      refine lv_ishl hx hb dX5_branch_206 ?_
      refine lv_ior hx hb dX5_branch_207 ?_
      refine lv_istore (lv' := [(4, .int ((((((mword E) >>> ((31 : Int32) &&& 31)) <<< ((12 : Int32) &&& 31)) ||| ((((mword E) >>> ((7 : Int32) &&& 31)) &&& (1 : Int32)) <<< ((11 : Int32) &&& 31))) ||| ((((mword E) >>> ((25 : Int32) &&& 31)) &&& (63 : Int32)) <<< ((5 : Int32) &&& 31))) ||| ((((mword E) >>> ((8 : Int32) &&& 31)) &&& (15 : Int32)) <<< ((1 : Int32) &&& 31)))), (3, .int (0 : Int32)), (2, .int (mx E ((mt E)).toNatClampNeg)), (1, .int (mx E ((ms E)).toNatClampNeg)), (0, .ref (q 0))]) hx hb dX5_branch_208 hl (by decide) rfl (fun ls hl => ?_)
      refine lv_iload_n hx hb dX5_branch_210 rfl (lv_at hl 1 rfl) ?_
      refine lv_if_eq (tgt := 229) hx hb dX5_branch_211 (by decide) (fun _ => ?_) (fun h => absurd (by decide) h)
      refine lv_iconst (v := (-1 : Int32)) hx hb dX5_branch_229 (by decide) ?_
      exact rmu_i (v := (-1 : Int32)) (F := (f_X5_branch sz mo E)) (E1 := E) (by unfold f_X5_branch; rw [if_neg c_1, if_neg c_3, if_neg c_5, if_neg c_6, if_neg c_7, if_pos c_9, if_pos c_10]; try rfl) X hP hD hS hAe hr hlk dX5_branch_230
    ·
      refine lv_iconst (v := (1 : Int32)) hx hb dX5_branch_119 (by decide) ?_
      refine lv_goto (tgt := 124) hx hb dX5_branch_120 (by decide) ?_
      refine lv_istore_n (lv' := [(3, .int (1 : Int32)), (2, .int (mx E ((mt E)).toNatClampNeg)), (1, .int (mx E ((ms E)).toNatClampNeg)), (0, .ref (q 0))]) hx hb dX5_branch_124 rfl hl (by decide) rfl (fun ls hl => ?_)
      refine lv_goto (tgt := 159) hx hb dX5_branch_125 (by decide) ?_
      refine lv_aload_n hx hb dX5_branch_159 rfl (lv_at hl 3 rfl) ?_
      refine gf_X5_118 X hP dX5_branch_160 ?_
      refine lv_bipush (v := (31 : Int32)) hx hb dX5_branch_163 (by decide) ?_
      refine lv_ishr hx hb dX5_branch_165 ?_
      refine lv_bipush (v := (12 : Int32)) hx hb dX5_branch_166 (by decide) ?_
      refine lv_ishl hx hb dX5_branch_168 ?_
      refine lv_aload_n hx hb dX5_branch_169 rfl (lv_at hl 3 rfl) ?_
      refine gf_X5_118 X hP dX5_branch_170 ?_
      refine lv_bipush (v := (7 : Int32)) hx hb dX5_branch_173 (by decide) ?_
      refine lv_ishr hx hb dX5_branch_175 ?_
      refine lv_iconst (v := (1 : Int32)) hx hb dX5_branch_176 (by decide) ?_
      refine lv_iand hx hb dX5_branch_177 ?_
      refine lv_bipush (v := (11 : Int32)) hx hb dX5_branch_178 (by decide) ?_
      refine lv_ishl hx hb dX5_branch_180 ?_
      refine lv_ior hx hb dX5_branch_181 ?_
      refine lv_aload_n hx hb dX5_branch_182 rfl (lv_at hl 3 rfl) ?_
      refine gf_X5_118 X hP dX5_branch_183 ?_
      refine lv_bipush (v := (25 : Int32)) hx hb dX5_branch_186 (by decide) ?_
      refine lv_ishr hx hb dX5_branch_188 ?_
      refine lv_bipush (v := (63 : Int32)) hx hb dX5_branch_189 (by decide) ?_
      refine lv_iand hx hb dX5_branch_191 ?_
      refine lv_iconst (v := (5 : Int32)) hx hb dX5_branch_192 (by decide) ?_
      refine lv_ishl hx hb dX5_branch_193 ?_
      refine lv_ior hx hb dX5_branch_194 ?_
      refine lv_aload_n hx hb dX5_branch_195 rfl (lv_at hl 3 rfl) ?_
      refine gf_X5_118 X hP dX5_branch_196 ?_
      refine lv_bipush (v := (8 : Int32)) hx hb dX5_branch_199 (by decide) ?_
      refine lv_ishr hx hb dX5_branch_201 ?_
      refine lv_bipush (v := (15 : Int32)) hx hb dX5_branch_202 (by decide) ?_
      refine lv_iand hx hb dX5_branch_204 ?_
      refine lv_iconst (v := (1 : Int32)) hx hb dX5_branch_205 (by decide) ?_
      refine lv_ishl hx hb dX5_branch_206 ?_
      refine lv_ior hx hb dX5_branch_207 ?_
      refine lv_istore (lv' := [(4, .int ((((((mword E) >>> ((31 : Int32) &&& 31)) <<< ((12 : Int32) &&& 31)) ||| ((((mword E) >>> ((7 : Int32) &&& 31)) &&& (1 : Int32)) <<< ((11 : Int32) &&& 31))) ||| ((((mword E) >>> ((25 : Int32) &&& 31)) &&& (63 : Int32)) <<< ((5 : Int32) &&& 31))) ||| ((((mword E) >>> ((8 : Int32) &&& 31)) &&& (15 : Int32)) <<< ((1 : Int32) &&& 31)))), (3, .int (1 : Int32)), (2, .int (mx E ((mt E)).toNatClampNeg)), (1, .int (mx E ((ms E)).toNatClampNeg)), (0, .ref (q 0))]) hx hb dX5_branch_208 hl (by decide) rfl (fun ls hl => ?_)
      refine lv_iload_n hx hb dX5_branch_210 rfl (lv_at hl 1 rfl) ?_
      refine lv_if_eq (tgt := 229) hx hb dX5_branch_211 (by decide) (fun h => absurd h (by decide)) (fun _ => ?_)
      refine lv_aload_n hx hb dX5_branch_214 rfl (lv_at hl 4 rfl) ?_
      refine lv_aload_n hx hb dX5_branch_215 rfl (lv_at hl 4 rfl) ?_
      refine gf_X5_30 X hP dX5_branch_216 ?_
      refine lv_iload hx hb dX5_branch_219 (lv_at hl 0 rfl) ?_
      refine lv_iadd hx hb dX5_branch_221 ?_
      refine lv_iconst (v := (0 : Int32)) hx hb dX5_branch_222 (by decide) ?_
      refine go_i (rn_V (ci := 5) (q0 := 0) X (c_X5_goTo l D q ca sz mo hk E ((mpc E) + ((((((mword E) >>> ((31 : Int32) &&& 31)) <<< ((12 : Int32) &&& 31)) ||| ((((mword E) >>> ((7 : Int32) &&& 31)) &&& (1 : Int32)) <<< ((11 : Int32) &&& 31))) ||| ((((mword E) >>> ((25 : Int32) &&& 31)) &&& (63 : Int32)) <<< ((5 : Int32) &&& 31))) ||| ((((mword E) >>> ((8 : Int32) &&& 31)) &&& (15 : Int32)) <<< ((1 : Int32) &&& 31)))) false hd.1) ok_X5_goTo wd_613 ⟨by decide, by decide⟩ hP hD rfl rfl rfl hl.1 rfl (Nat.le_of_ble_eq_true rfl) dX5_branch_223 ⟨Nat.zero_le _, Nat.zero_le _⟩) hP hD hS hA (fun H locs hP hD hS => ?_)
      refine lv_goto (tgt := 230) hx hb dX5_branch_226 (by decide) ?_
      exact rmu_i (v := (f_X5_goTo sz mo E ((mpc E) + ((((((mword E) >>> ((31 : Int32) &&& 31)) <<< ((12 : Int32) &&& 31)) ||| ((((mword E) >>> ((7 : Int32) &&& 31)) &&& (1 : Int32)) <<< ((11 : Int32) &&& 31))) ||| ((((mword E) >>> ((25 : Int32) &&& 31)) &&& (63 : Int32)) <<< ((5 : Int32) &&& 31))) ||| ((((mword E) >>> ((8 : Int32) &&& 31)) &&& (15 : Int32)) <<< ((1 : Int32) &&& 31)))) false).1) (F := (f_X5_branch sz mo E)) (E1 := (f_X5_goTo sz mo E ((mpc E) + ((((((mword E) >>> ((31 : Int32) &&& 31)) <<< ((12 : Int32) &&& 31)) ||| ((((mword E) >>> ((7 : Int32) &&& 31)) &&& (1 : Int32)) <<< ((11 : Int32) &&& 31))) ||| ((((mword E) >>> ((25 : Int32) &&& 31)) &&& (63 : Int32)) <<< ((5 : Int32) &&& 31))) ||| ((((mword E) >>> ((8 : Int32) &&& 31)) &&& (15 : Int32)) <<< ((1 : Int32) &&& 31)))) false).2) (by unfold f_X5_branch; rw [if_neg c_1, if_neg c_3, if_neg c_5, if_neg c_6, if_neg c_7, if_pos c_9, if_neg c_10]; try rfl) X hP hD hS hAe hr hlk dX5_branch_230
  by_cases c_11 : (mf E) = (6 : Int32)
  ·
    refine lv_tableIn (off := 102) (tgt := 128) hx hb dX5_branch_26 (by rw [c_11]; decide) (by rw [c_11]; decide) (by rw [c_11]; decide) (by decide) ?_
    refine lv_iload_n hx hb dX5_branch_128 rfl (lv_at hl 2 rfl) ?_
    refine lv_iload_n hx hb dX5_branch_129 rfl (lv_at hl 1 rfl) ?_
    refine go_i (rn_S X (c_X5_isBelow l D _ _ (mx E ((ms E)).toNatClampNeg) (mx E ((mt E)).toNatClampNeg)) ok_X5_isBelow wd_629 ⟨by decide, by decide⟩ hP hD rfl hl.1 rfl (Nat.le_of_ble_eq_true rfl) dX5_branch_130 ⟨Nat.zero_le _, Nat.zero_le _⟩) hP hD hS hA (fun H locs hP hD hS => ?_)
    refine lv_istore_n (lv' := [(3, .int (b2i (f_X5_isBelow (mx E ((ms E)).toNatClampNeg) (mx E ((mt E)).toNatClampNeg)))), (2, .int (mx E ((mt E)).toNatClampNeg)), (1, .int (mx E ((ms E)).toNatClampNeg)), (0, .ref (q 0))]) hx hb dX5_branch_133 rfl hl (by decide) rfl (fun ls hl => ?_)
    refine lv_goto (tgt := 159) hx hb dX5_branch_134 (by decide) ?_
    refine lv_aload_n hx hb dX5_branch_159 rfl (lv_at hl 3 rfl) ?_
    refine gf_X5_118 X hP dX5_branch_160 ?_
    refine lv_bipush (v := (31 : Int32)) hx hb dX5_branch_163 (by decide) ?_
    refine lv_ishr hx hb dX5_branch_165 ?_
    refine lv_bipush (v := (12 : Int32)) hx hb dX5_branch_166 (by decide) ?_
    refine lv_ishl hx hb dX5_branch_168 ?_
    refine lv_aload_n hx hb dX5_branch_169 rfl (lv_at hl 3 rfl) ?_
    refine gf_X5_118 X hP dX5_branch_170 ?_
    refine lv_bipush (v := (7 : Int32)) hx hb dX5_branch_173 (by decide) ?_
    refine lv_ishr hx hb dX5_branch_175 ?_
    refine lv_iconst (v := (1 : Int32)) hx hb dX5_branch_176 (by decide) ?_
    refine lv_iand hx hb dX5_branch_177 ?_
    refine lv_bipush (v := (11 : Int32)) hx hb dX5_branch_178 (by decide) ?_
    refine lv_ishl hx hb dX5_branch_180 ?_
    refine lv_ior hx hb dX5_branch_181 ?_
    refine lv_aload_n hx hb dX5_branch_182 rfl (lv_at hl 3 rfl) ?_
    refine gf_X5_118 X hP dX5_branch_183 ?_
    refine lv_bipush (v := (25 : Int32)) hx hb dX5_branch_186 (by decide) ?_
    refine lv_ishr hx hb dX5_branch_188 ?_
    refine lv_bipush (v := (63 : Int32)) hx hb dX5_branch_189 (by decide) ?_
    refine lv_iand hx hb dX5_branch_191 ?_
    refine lv_iconst (v := (5 : Int32)) hx hb dX5_branch_192 (by decide) ?_
    refine lv_ishl hx hb dX5_branch_193 ?_
    refine lv_ior hx hb dX5_branch_194 ?_
    refine lv_aload_n hx hb dX5_branch_195 rfl (lv_at hl 3 rfl) ?_
    refine gf_X5_118 X hP dX5_branch_196 ?_
    refine lv_bipush (v := (8 : Int32)) hx hb dX5_branch_199 (by decide) ?_
    refine lv_ishr hx hb dX5_branch_201 ?_
    refine lv_bipush (v := (15 : Int32)) hx hb dX5_branch_202 (by decide) ?_
    refine lv_iand hx hb dX5_branch_204 ?_
    refine lv_iconst (v := (1 : Int32)) hx hb dX5_branch_205 (by decide) ?_
    refine lv_ishl hx hb dX5_branch_206 ?_
    refine lv_ior hx hb dX5_branch_207 ?_
    refine lv_istore (lv' := [(4, .int ((((((mword E) >>> ((31 : Int32) &&& 31)) <<< ((12 : Int32) &&& 31)) ||| ((((mword E) >>> ((7 : Int32) &&& 31)) &&& (1 : Int32)) <<< ((11 : Int32) &&& 31))) ||| ((((mword E) >>> ((25 : Int32) &&& 31)) &&& (63 : Int32)) <<< ((5 : Int32) &&& 31))) ||| ((((mword E) >>> ((8 : Int32) &&& 31)) &&& (15 : Int32)) <<< ((1 : Int32) &&& 31)))), (3, .int (b2i (f_X5_isBelow (mx E ((ms E)).toNatClampNeg) (mx E ((mt E)).toNatClampNeg)))), (2, .int (mx E ((mt E)).toNatClampNeg)), (1, .int (mx E ((ms E)).toNatClampNeg)), (0, .ref (q 0))]) hx hb dX5_branch_208 hl (by decide) rfl (fun ls hl => ?_)
    refine lv_iload_n hx hb dX5_branch_210 rfl (lv_at hl 1 rfl) ?_
    refine lv_if_eq (tgt := 229) hx hb dX5_branch_211 (by decide) (fun c_12 => ?_) (fun c_12 => ?_)
    ·
      refine lv_iconst (v := (-1 : Int32)) hx hb dX5_branch_229 (by decide) ?_
      exact rmu_i (v := (-1 : Int32)) (F := (f_X5_branch sz mo E)) (E1 := E) (by unfold f_X5_branch; rw [if_neg c_1, if_neg c_3, if_neg c_5, if_neg c_6, if_neg c_7, if_neg c_9, if_pos c_11, if_pos c_12]; try rfl) X hP hD hS hAe hr hlk dX5_branch_230
    ·
      refine lv_aload_n hx hb dX5_branch_214 rfl (lv_at hl 4 rfl) ?_
      refine lv_aload_n hx hb dX5_branch_215 rfl (lv_at hl 4 rfl) ?_
      refine gf_X5_30 X hP dX5_branch_216 ?_
      refine lv_iload hx hb dX5_branch_219 (lv_at hl 0 rfl) ?_
      refine lv_iadd hx hb dX5_branch_221 ?_
      refine lv_iconst (v := (0 : Int32)) hx hb dX5_branch_222 (by decide) ?_
      refine go_i (rn_V (ci := 5) (q0 := 0) X (c_X5_goTo l D q ca sz mo hk E ((mpc E) + ((((((mword E) >>> ((31 : Int32) &&& 31)) <<< ((12 : Int32) &&& 31)) ||| ((((mword E) >>> ((7 : Int32) &&& 31)) &&& (1 : Int32)) <<< ((11 : Int32) &&& 31))) ||| ((((mword E) >>> ((25 : Int32) &&& 31)) &&& (63 : Int32)) <<< ((5 : Int32) &&& 31))) ||| ((((mword E) >>> ((8 : Int32) &&& 31)) &&& (15 : Int32)) <<< ((1 : Int32) &&& 31)))) false hd.1) ok_X5_goTo wd_613 ⟨by decide, by decide⟩ hP hD rfl rfl rfl hl.1 rfl (Nat.le_of_ble_eq_true rfl) dX5_branch_223 ⟨Nat.zero_le _, Nat.zero_le _⟩) hP hD hS hA (fun H locs hP hD hS => ?_)
      refine lv_goto (tgt := 230) hx hb dX5_branch_226 (by decide) ?_
      exact rmu_i (v := (f_X5_goTo sz mo E ((mpc E) + ((((((mword E) >>> ((31 : Int32) &&& 31)) <<< ((12 : Int32) &&& 31)) ||| ((((mword E) >>> ((7 : Int32) &&& 31)) &&& (1 : Int32)) <<< ((11 : Int32) &&& 31))) ||| ((((mword E) >>> ((25 : Int32) &&& 31)) &&& (63 : Int32)) <<< ((5 : Int32) &&& 31))) ||| ((((mword E) >>> ((8 : Int32) &&& 31)) &&& (15 : Int32)) <<< ((1 : Int32) &&& 31)))) false).1) (F := (f_X5_branch sz mo E)) (E1 := (f_X5_goTo sz mo E ((mpc E) + ((((((mword E) >>> ((31 : Int32) &&& 31)) <<< ((12 : Int32) &&& 31)) ||| ((((mword E) >>> ((7 : Int32) &&& 31)) &&& (1 : Int32)) <<< ((11 : Int32) &&& 31))) ||| ((((mword E) >>> ((25 : Int32) &&& 31)) &&& (63 : Int32)) <<< ((5 : Int32) &&& 31))) ||| ((((mword E) >>> ((8 : Int32) &&& 31)) &&& (15 : Int32)) <<< ((1 : Int32) &&& 31)))) false).2) (by unfold f_X5_branch; rw [if_neg c_1, if_neg c_3, if_neg c_5, if_neg c_6, if_neg c_7, if_neg c_9, if_pos c_11, if_neg c_12]; try rfl) X hP hD hS hAe hr hlk dX5_branch_230
  by_cases c_13 : (mf E) = (7 : Int32)
  ·
    refine lv_tableIn (off := 111) (tgt := 137) hx hb dX5_branch_26 (by rw [c_13]; decide) (by rw [c_13]; decide) (by rw [c_13]; decide) (by decide) ?_
    refine lv_iload_n hx hb dX5_branch_137 rfl (lv_at hl 2 rfl) ?_
    refine lv_iload_n hx hb dX5_branch_138 rfl (lv_at hl 1 rfl) ?_
    refine go_i (rn_S X (c_X5_isBelow l D _ _ (mx E ((ms E)).toNatClampNeg) (mx E ((mt E)).toNatClampNeg)) ok_X5_isBelow wd_629 ⟨by decide, by decide⟩ hP hD rfl hl.1 rfl (Nat.le_of_ble_eq_true rfl) dX5_branch_139 ⟨Nat.zero_le _, Nat.zero_le _⟩) hP hD hS hA (fun H locs hP hD hS => ?_)
    refine lv_if_ne (tgt := 149) hx hb dX5_branch_142 (by decide) (fun c_14 => ?_) (fun c_14 => ?_)
    ·
      refine lv_iconst (v := (0 : Int32)) hx hb dX5_branch_149 (by decide) ?_
      refine lv_istore_n (lv' := [(3, .int (0 : Int32)), (2, .int (mx E ((mt E)).toNatClampNeg)), (1, .int (mx E ((ms E)).toNatClampNeg)), (0, .ref (q 0))]) hx hb dX5_branch_150 rfl hl (by decide) rfl (fun ls hl => ?_)
      refine lv_goto (tgt := 159) hx hb dX5_branch_151 (by decide) ?_
      refine lv_aload_n hx hb dX5_branch_159 rfl (lv_at hl 3 rfl) ?_
      refine gf_X5_118 X hP dX5_branch_160 ?_
      refine lv_bipush (v := (31 : Int32)) hx hb dX5_branch_163 (by decide) ?_
      refine lv_ishr hx hb dX5_branch_165 ?_
      refine lv_bipush (v := (12 : Int32)) hx hb dX5_branch_166 (by decide) ?_
      refine lv_ishl hx hb dX5_branch_168 ?_
      refine lv_aload_n hx hb dX5_branch_169 rfl (lv_at hl 3 rfl) ?_
      refine gf_X5_118 X hP dX5_branch_170 ?_
      refine lv_bipush (v := (7 : Int32)) hx hb dX5_branch_173 (by decide) ?_
      refine lv_ishr hx hb dX5_branch_175 ?_
      refine lv_iconst (v := (1 : Int32)) hx hb dX5_branch_176 (by decide) ?_
      refine lv_iand hx hb dX5_branch_177 ?_
      refine lv_bipush (v := (11 : Int32)) hx hb dX5_branch_178 (by decide) ?_
      refine lv_ishl hx hb dX5_branch_180 ?_
      refine lv_ior hx hb dX5_branch_181 ?_
      refine lv_aload_n hx hb dX5_branch_182 rfl (lv_at hl 3 rfl) ?_
      refine gf_X5_118 X hP dX5_branch_183 ?_
      refine lv_bipush (v := (25 : Int32)) hx hb dX5_branch_186 (by decide) ?_
      refine lv_ishr hx hb dX5_branch_188 ?_
      refine lv_bipush (v := (63 : Int32)) hx hb dX5_branch_189 (by decide) ?_
      refine lv_iand hx hb dX5_branch_191 ?_
      refine lv_iconst (v := (5 : Int32)) hx hb dX5_branch_192 (by decide) ?_
      refine lv_ishl hx hb dX5_branch_193 ?_
      refine lv_ior hx hb dX5_branch_194 ?_
      refine lv_aload_n hx hb dX5_branch_195 rfl (lv_at hl 3 rfl) ?_
      refine gf_X5_118 X hP dX5_branch_196 ?_
      refine lv_bipush (v := (8 : Int32)) hx hb dX5_branch_199 (by decide) ?_
      refine lv_ishr hx hb dX5_branch_201 ?_
      refine lv_bipush (v := (15 : Int32)) hx hb dX5_branch_202 (by decide) ?_
      refine lv_iand hx hb dX5_branch_204 ?_
      refine lv_iconst (v := (1 : Int32)) hx hb dX5_branch_205 (by decide) ?_
      refine lv_ishl hx hb dX5_branch_206 ?_
      refine lv_ior hx hb dX5_branch_207 ?_
      refine lv_istore (lv' := [(4, .int ((((((mword E) >>> ((31 : Int32) &&& 31)) <<< ((12 : Int32) &&& 31)) ||| ((((mword E) >>> ((7 : Int32) &&& 31)) &&& (1 : Int32)) <<< ((11 : Int32) &&& 31))) ||| ((((mword E) >>> ((25 : Int32) &&& 31)) &&& (63 : Int32)) <<< ((5 : Int32) &&& 31))) ||| ((((mword E) >>> ((8 : Int32) &&& 31)) &&& (15 : Int32)) <<< ((1 : Int32) &&& 31)))), (3, .int (0 : Int32)), (2, .int (mx E ((mt E)).toNatClampNeg)), (1, .int (mx E ((ms E)).toNatClampNeg)), (0, .ref (q 0))]) hx hb dX5_branch_208 hl (by decide) rfl (fun ls hl => ?_)
      refine lv_iload_n hx hb dX5_branch_210 rfl (lv_at hl 1 rfl) ?_
      refine lv_if_eq (tgt := 229) hx hb dX5_branch_211 (by decide) (fun _ => ?_) (fun h => absurd (by decide) h)
      refine lv_iconst (v := (-1 : Int32)) hx hb dX5_branch_229 (by decide) ?_
      exact rmu_i (v := (-1 : Int32)) (F := (f_X5_branch sz mo E)) (E1 := E) (by unfold f_X5_branch; rw [if_neg c_1, if_neg c_3, if_neg c_5, if_neg c_6, if_neg c_7, if_neg c_9, if_neg c_11, if_pos c_13, if_neg c_14]; try rfl) X hP hD hS hAe hr hlk dX5_branch_230
    ·
      refine lv_iconst (v := (1 : Int32)) hx hb dX5_branch_145 (by decide) ?_
      refine lv_goto (tgt := 150) hx hb dX5_branch_146 (by decide) ?_
      refine lv_istore_n (lv' := [(3, .int (1 : Int32)), (2, .int (mx E ((mt E)).toNatClampNeg)), (1, .int (mx E ((ms E)).toNatClampNeg)), (0, .ref (q 0))]) hx hb dX5_branch_150 rfl hl (by decide) rfl (fun ls hl => ?_)
      refine lv_goto (tgt := 159) hx hb dX5_branch_151 (by decide) ?_
      refine lv_aload_n hx hb dX5_branch_159 rfl (lv_at hl 3 rfl) ?_
      refine gf_X5_118 X hP dX5_branch_160 ?_
      refine lv_bipush (v := (31 : Int32)) hx hb dX5_branch_163 (by decide) ?_
      refine lv_ishr hx hb dX5_branch_165 ?_
      refine lv_bipush (v := (12 : Int32)) hx hb dX5_branch_166 (by decide) ?_
      refine lv_ishl hx hb dX5_branch_168 ?_
      refine lv_aload_n hx hb dX5_branch_169 rfl (lv_at hl 3 rfl) ?_
      refine gf_X5_118 X hP dX5_branch_170 ?_
      refine lv_bipush (v := (7 : Int32)) hx hb dX5_branch_173 (by decide) ?_
      refine lv_ishr hx hb dX5_branch_175 ?_
      refine lv_iconst (v := (1 : Int32)) hx hb dX5_branch_176 (by decide) ?_
      refine lv_iand hx hb dX5_branch_177 ?_
      refine lv_bipush (v := (11 : Int32)) hx hb dX5_branch_178 (by decide) ?_
      refine lv_ishl hx hb dX5_branch_180 ?_
      refine lv_ior hx hb dX5_branch_181 ?_
      refine lv_aload_n hx hb dX5_branch_182 rfl (lv_at hl 3 rfl) ?_
      refine gf_X5_118 X hP dX5_branch_183 ?_
      refine lv_bipush (v := (25 : Int32)) hx hb dX5_branch_186 (by decide) ?_
      refine lv_ishr hx hb dX5_branch_188 ?_
      refine lv_bipush (v := (63 : Int32)) hx hb dX5_branch_189 (by decide) ?_
      refine lv_iand hx hb dX5_branch_191 ?_
      refine lv_iconst (v := (5 : Int32)) hx hb dX5_branch_192 (by decide) ?_
      refine lv_ishl hx hb dX5_branch_193 ?_
      refine lv_ior hx hb dX5_branch_194 ?_
      refine lv_aload_n hx hb dX5_branch_195 rfl (lv_at hl 3 rfl) ?_
      refine gf_X5_118 X hP dX5_branch_196 ?_
      refine lv_bipush (v := (8 : Int32)) hx hb dX5_branch_199 (by decide) ?_
      refine lv_ishr hx hb dX5_branch_201 ?_
      refine lv_bipush (v := (15 : Int32)) hx hb dX5_branch_202 (by decide) ?_
      refine lv_iand hx hb dX5_branch_204 ?_
      refine lv_iconst (v := (1 : Int32)) hx hb dX5_branch_205 (by decide) ?_
      refine lv_ishl hx hb dX5_branch_206 ?_
      refine lv_ior hx hb dX5_branch_207 ?_
      refine lv_istore (lv' := [(4, .int ((((((mword E) >>> ((31 : Int32) &&& 31)) <<< ((12 : Int32) &&& 31)) ||| ((((mword E) >>> ((7 : Int32) &&& 31)) &&& (1 : Int32)) <<< ((11 : Int32) &&& 31))) ||| ((((mword E) >>> ((25 : Int32) &&& 31)) &&& (63 : Int32)) <<< ((5 : Int32) &&& 31))) ||| ((((mword E) >>> ((8 : Int32) &&& 31)) &&& (15 : Int32)) <<< ((1 : Int32) &&& 31)))), (3, .int (1 : Int32)), (2, .int (mx E ((mt E)).toNatClampNeg)), (1, .int (mx E ((ms E)).toNatClampNeg)), (0, .ref (q 0))]) hx hb dX5_branch_208 hl (by decide) rfl (fun ls hl => ?_)
      refine lv_iload_n hx hb dX5_branch_210 rfl (lv_at hl 1 rfl) ?_
      refine lv_if_eq (tgt := 229) hx hb dX5_branch_211 (by decide) (fun h => absurd h (by decide)) (fun _ => ?_)
      refine lv_aload_n hx hb dX5_branch_214 rfl (lv_at hl 4 rfl) ?_
      refine lv_aload_n hx hb dX5_branch_215 rfl (lv_at hl 4 rfl) ?_
      refine gf_X5_30 X hP dX5_branch_216 ?_
      refine lv_iload hx hb dX5_branch_219 (lv_at hl 0 rfl) ?_
      refine lv_iadd hx hb dX5_branch_221 ?_
      refine lv_iconst (v := (0 : Int32)) hx hb dX5_branch_222 (by decide) ?_
      refine go_i (rn_V (ci := 5) (q0 := 0) X (c_X5_goTo l D q ca sz mo hk E ((mpc E) + ((((((mword E) >>> ((31 : Int32) &&& 31)) <<< ((12 : Int32) &&& 31)) ||| ((((mword E) >>> ((7 : Int32) &&& 31)) &&& (1 : Int32)) <<< ((11 : Int32) &&& 31))) ||| ((((mword E) >>> ((25 : Int32) &&& 31)) &&& (63 : Int32)) <<< ((5 : Int32) &&& 31))) ||| ((((mword E) >>> ((8 : Int32) &&& 31)) &&& (15 : Int32)) <<< ((1 : Int32) &&& 31)))) false hd.1) ok_X5_goTo wd_613 ⟨by decide, by decide⟩ hP hD rfl rfl rfl hl.1 rfl (Nat.le_of_ble_eq_true rfl) dX5_branch_223 ⟨Nat.zero_le _, Nat.zero_le _⟩) hP hD hS hA (fun H locs hP hD hS => ?_)
      refine lv_goto (tgt := 230) hx hb dX5_branch_226 (by decide) ?_
      exact rmu_i (v := (f_X5_goTo sz mo E ((mpc E) + ((((((mword E) >>> ((31 : Int32) &&& 31)) <<< ((12 : Int32) &&& 31)) ||| ((((mword E) >>> ((7 : Int32) &&& 31)) &&& (1 : Int32)) <<< ((11 : Int32) &&& 31))) ||| ((((mword E) >>> ((25 : Int32) &&& 31)) &&& (63 : Int32)) <<< ((5 : Int32) &&& 31))) ||| ((((mword E) >>> ((8 : Int32) &&& 31)) &&& (15 : Int32)) <<< ((1 : Int32) &&& 31)))) false).1) (F := (f_X5_branch sz mo E)) (E1 := (f_X5_goTo sz mo E ((mpc E) + ((((((mword E) >>> ((31 : Int32) &&& 31)) <<< ((12 : Int32) &&& 31)) ||| ((((mword E) >>> ((7 : Int32) &&& 31)) &&& (1 : Int32)) <<< ((11 : Int32) &&& 31))) ||| ((((mword E) >>> ((25 : Int32) &&& 31)) &&& (63 : Int32)) <<< ((5 : Int32) &&& 31))) ||| ((((mword E) >>> ((8 : Int32) &&& 31)) &&& (15 : Int32)) <<< ((1 : Int32) &&& 31)))) false).2) (by unfold f_X5_branch; rw [if_neg c_1, if_neg c_3, if_neg c_5, if_neg c_6, if_neg c_7, if_neg c_9, if_neg c_11, if_pos c_13, if_pos c_14]; try rfl) X hP hD hS hAe hr hlk dX5_branch_230
  refine lv_tableOut (tgt := 154) hx hb dX5_branch_26 (by have := lv_neT (a := 0) c_1 (by decide); have := lv_neT (a := 1) c_3 (by decide); have := lv_neT (a := 2) c_5 (by decide); have := lv_neT (a := 3) c_6 (by decide); have := lv_neT (a := 4) c_7 (by decide); have := lv_neT (a := 5) c_9 (by decide); have := lv_neT (a := 6) c_11 (by decide); have := lv_neT (a := 7) c_13 (by decide); omega) (by decide) ?_
  refine lv_aload_n hx hb dX5_branch_154 rfl (lv_at hl 3 rfl) ?_
  refine go_i (rn_V (ci := 5) (q0 := 0) X (c_X5_illegal l D q ca sz mo hk E ) ok_X5_illegal wd_621 ⟨by decide, by decide⟩ hP hD rfl rfl rfl hl.1 rfl (Nat.le_of_ble_eq_true rfl) dX5_branch_155 ⟨Nat.zero_le _, Nat.zero_le _⟩) hP hD hS hA (fun H locs hP hD hS => ?_)
  exact rmu_i (v := (f_X5_illegal sz mo E).1) (F := (f_X5_branch sz mo E)) (E1 := (f_X5_illegal sz mo E).2) (by unfold f_X5_branch; rw [if_neg c_1, if_neg c_3, if_neg c_5, if_neg c_6, if_neg c_7, if_neg c_9, if_neg c_11, if_neg c_13]; try rfl) X hP hD hS hAe hr hlk dX5_branch_158
set_option maxHeartbeats 4000000 in
set_option maxRecDepth 100000 in
theorem c_X5_isListed (l : Launch) (D : va_G) (tys : List (ClassId × FieldType)) (ws : va_W) (a1 : Int32) : Mt l yX5_isListed cX5_isListed 1 (some .boolean) 0 D tys [.int a1] ws (QcI D ws ws (b2i (f_X5_isListed a1))) := by
  refine ent (own := RX5) rfl (by decide) (Nat.le_of_ble_eq_true rfl) ?_
  intro p e s m below meth c A ls X hr hlk hmn hAe hA hP hD hS hl
  have hx := X.1.1
  have hb := X.1.2.1
  have hl : lv_has ls 1 [(0, .int a1)] := hl
  refine lv_iload_n hx hb dX5_isListed_0 rfl (lv_at hl 0 rfl) ?_
  refine lv_sipush (v := (768 : Int32)) hx hb dX5_isListed_1 (by decide) ?_
  refine lv_icmp_eq (tgt := 49) hx hb dX5_isListed_4 (by decide) (fun c_1 => ?_) (fun c_1 => ?_)
  ·
    refine lv_iconst (v := (1 : Int32)) hx hb dX5_isListed_49 (by decide) ?_
    refine lv_goto (tgt := 54) hx hb dX5_isListed_50 (by decide) ?_
    exact rg_z (v := true) (F := (f_X5_isListed a1)) (by unfold f_X5_isListed; rw [if_pos c_1]; try rfl) X hP hD hS hAe hr hlk dX5_isListed_54
  ·
    refine lv_iload_n hx hb dX5_isListed_7 rfl (lv_at hl 0 rfl) ?_
    refine lv_sipush (v := (769 : Int32)) hx hb dX5_isListed_8 (by decide) ?_
    refine lv_icmp_eq (tgt := 49) hx hb dX5_isListed_11 (by decide) (fun c_2 => ?_) (fun c_2 => ?_)
    ·
      refine lv_iconst (v := (1 : Int32)) hx hb dX5_isListed_49 (by decide) ?_
      refine lv_goto (tgt := 54) hx hb dX5_isListed_50 (by decide) ?_
      exact rg_z (v := true) (F := (f_X5_isListed a1)) (by unfold f_X5_isListed; rw [if_neg c_1, if_pos c_2]; try rfl) X hP hD hS hAe hr hlk dX5_isListed_54
    ·
      refine lv_iload_n hx hb dX5_isListed_14 rfl (lv_at hl 0 rfl) ?_
      refine lv_sipush (v := (772 : Int32)) hx hb dX5_isListed_15 (by decide) ?_
      refine lv_icmp_eq (tgt := 49) hx hb dX5_isListed_18 (by decide) (fun c_3 => ?_) (fun c_3 => ?_)
      ·
        refine lv_iconst (v := (1 : Int32)) hx hb dX5_isListed_49 (by decide) ?_
        refine lv_goto (tgt := 54) hx hb dX5_isListed_50 (by decide) ?_
        exact rg_z (v := true) (F := (f_X5_isListed a1)) (by unfold f_X5_isListed; rw [if_neg c_1, if_neg c_2, if_pos c_3]; try rfl) X hP hD hS hAe hr hlk dX5_isListed_54
      ·
        refine lv_iload_n hx hb dX5_isListed_21 rfl (lv_at hl 0 rfl) ?_
        refine lv_sipush (v := (773 : Int32)) hx hb dX5_isListed_22 (by decide) ?_
        refine lv_icmp_eq (tgt := 49) hx hb dX5_isListed_25 (by decide) (fun c_4 => ?_) (fun c_4 => ?_)
        ·
          refine lv_iconst (v := (1 : Int32)) hx hb dX5_isListed_49 (by decide) ?_
          refine lv_goto (tgt := 54) hx hb dX5_isListed_50 (by decide) ?_
          exact rg_z (v := true) (F := (f_X5_isListed a1)) (by unfold f_X5_isListed; rw [if_neg c_1, if_neg c_2, if_neg c_3, if_pos c_4]; try rfl) X hP hD hS hAe hr hlk dX5_isListed_54
        ·
          refine lv_iload_n hx hb dX5_isListed_28 rfl (lv_at hl 0 rfl) ?_
          refine lv_sipush (v := (832 : Int32)) hx hb dX5_isListed_29 (by decide) ?_
          refine lv_icmp_lt (tgt := 42) hx hb dX5_isListed_32 (by decide) (fun c_5 => ?_) (fun c_5 => ?_)
          ·
            refine lv_iload_n hx hb dX5_isListed_42 rfl (lv_at hl 0 rfl) ?_
            refine lv_sipush (v := (3860 : Int32)) hx hb dX5_isListed_43 (by decide) ?_
            refine lv_icmp_ne (tgt := 53) hx hb dX5_isListed_46 (by decide) (fun c_6 => ?_) (fun c_6 => ?_)
            ·
              refine lv_iconst (v := (0 : Int32)) hx hb dX5_isListed_53 (by decide) ?_
              exact rg_z (v := false) (F := (f_X5_isListed a1)) (by unfold f_X5_isListed; rw [if_neg c_1, if_neg c_2, if_neg c_3, if_neg c_4, if_pos c_5, if_neg c_6]; try rfl) X hP hD hS hAe hr hlk dX5_isListed_54
            ·
              refine lv_iconst (v := (1 : Int32)) hx hb dX5_isListed_49 (by decide) ?_
              refine lv_goto (tgt := 54) hx hb dX5_isListed_50 (by decide) ?_
              exact rg_z (v := true) (F := (f_X5_isListed a1)) (by unfold f_X5_isListed; rw [if_neg c_1, if_neg c_2, if_neg c_3, if_neg c_4, if_pos c_5, if_pos c_6]; try rfl) X hP hD hS hAe hr hlk dX5_isListed_54
          ·
            refine lv_iload_n hx hb dX5_isListed_35 rfl (lv_at hl 0 rfl) ?_
            refine lv_sipush (v := (836 : Int32)) hx hb dX5_isListed_36 (by decide) ?_
            refine lv_icmp_le (tgt := 49) hx hb dX5_isListed_39 (by decide) (fun c_7 => ?_) (fun c_7 => ?_)
            ·
              refine lv_iconst (v := (1 : Int32)) hx hb dX5_isListed_49 (by decide) ?_
              refine lv_goto (tgt := 54) hx hb dX5_isListed_50 (by decide) ?_
              exact rg_z (v := true) (F := (f_X5_isListed a1)) (by unfold f_X5_isListed; rw [if_neg c_1, if_neg c_2, if_neg c_3, if_neg c_4, if_neg c_5, if_pos c_7]; try rfl) X hP hD hS hAe hr hlk dX5_isListed_54
            ·
              refine lv_iload_n hx hb dX5_isListed_42 rfl (lv_at hl 0 rfl) ?_
              refine lv_sipush (v := (3860 : Int32)) hx hb dX5_isListed_43 (by decide) ?_
              refine lv_icmp_ne (tgt := 53) hx hb dX5_isListed_46 (by decide) (fun c_8 => ?_) (fun c_8 => ?_)
              ·
                refine lv_iconst (v := (0 : Int32)) hx hb dX5_isListed_53 (by decide) ?_
                exact rg_z (v := false) (F := (f_X5_isListed a1)) (by unfold f_X5_isListed; rw [if_neg c_1, if_neg c_2, if_neg c_3, if_neg c_4, if_neg c_5, if_neg c_7, if_neg c_8]; try rfl) X hP hD hS hAe hr hlk dX5_isListed_54
              ·
                refine lv_iconst (v := (1 : Int32)) hx hb dX5_isListed_49 (by decide) ?_
                refine lv_goto (tgt := 54) hx hb dX5_isListed_50 (by decide) ?_
                exact rg_z (v := true) (F := (f_X5_isListed a1)) (by unfold f_X5_isListed; rw [if_neg c_1, if_neg c_2, if_neg c_3, if_neg c_4, if_neg c_5, if_neg c_7, if_pos c_8]; try rfl) X hP hD hS hAe hr hlk dX5_isListed_54
set_option maxHeartbeats 4000000 in
set_option maxRecDepth 100000 in
theorem c_X5_setCsr (l : Launch) (D : va_G) (q : Nat → Nat) (ca : Nat → ClassId) (sz mo : Int32) (hk : MOk sz mo) (E : MS) (a1 : Int32) (a2 : Int32) : Mt l yX5_setCsr cX5_setCsr 3 none 0 D (tysM ca) [.ref (q 0), .int a1, .int a2] (cwM q ca sz mo E) (QcV D (cwM q ca sz mo E) (cwM q ca sz mo (f_X5_setCsr sz mo E a1 a2))) := by
  refine ent (own := RX5) rfl (by decide) (Nat.le_of_ble_eq_true rfl) ?_
  intro p e s m below meth c A ls X hr hlk hmn hAe hA hP hD hS hl
  have hx := X.1.1
  have hb := X.1.2.1
  have hl : lv_has ls 3 [(0, .ref (q 0)), (1, .int a1), (2, .int a2)] := hl
  refine lv_iload_n hx hb dX5_setCsr_0 rfl (lv_at hl 1 rfl) ?_
  by_cases c_1 : a1 = (768 : Int32)
  ·
    refine lv_lookup (off := 67) (tgt := 68) hx hb dX5_setCsr_1 (by decide) (by rw [c_1]; decide) (by decide) ?_
    refine lv_aload_n hx hb dX5_setCsr_68 rfl (lv_at hl 0 rfl) ?_
    refine lv_iload_n hx hb dX5_setCsr_69 rfl (lv_at hl 2 rfl) ?_
    refine lv_bipush (v := (8 : Int32)) hx hb dX5_setCsr_70 (by decide) ?_
    refine lv_iand hx hb dX5_setCsr_72 ?_
    refine lv_if_eq (tgt := 80) hx hb dX5_setCsr_73 (by decide) (fun c_2 => ?_) (fun c_2 => ?_)
    ·
      refine lv_iconst (v := (0 : Int32)) hx hb dX5_setCsr_80 (by decide) ?_
      refine pf_X5_33 X hP hD hS false dX5_setCsr_81 (fun H locs hP hD hS => ?_)
      refine lv_aload_n hx hb dX5_setCsr_84 rfl (lv_at hl 0 rfl) ?_
      refine lv_iload_n hx hb dX5_setCsr_85 rfl (lv_at hl 2 rfl) ?_
      refine lv_sipush (v := (128 : Int32)) hx hb dX5_setCsr_86 (by decide) ?_
      refine lv_iand hx hb dX5_setCsr_89 ?_
      refine lv_if_eq (tgt := 97) hx hb dX5_setCsr_90 (by decide) (fun c_3 => ?_) (fun c_3 => ?_)
      ·
        refine lv_iconst (v := (0 : Int32)) hx hb dX5_setCsr_97 (by decide) ?_
        refine pf_X5_37 X hP hD hS false dX5_setCsr_98 (fun H locs hP hD hS => ?_)
        refine lv_goto (tgt := 165) hx hb dX5_setCsr_101 (by decide) ?_
        exact rmu_v (F := (f_X5_setCsr sz mo E a1 a2)) (E1 := (mmpie_ (mmie_ E false) false)) (by unfold f_X5_setCsr; rw [if_pos c_1, if_pos c_2, if_pos c_3]; try rfl) X hP hD hS hAe hr hlk dX5_setCsr_165
      ·
        refine lv_iconst (v := (1 : Int32)) hx hb dX5_setCsr_93 (by decide) ?_
        refine lv_goto (tgt := 98) hx hb dX5_setCsr_94 (by decide) ?_
        refine pf_X5_37 X hP hD hS true dX5_setCsr_98 (fun H locs hP hD hS => ?_)
        refine lv_goto (tgt := 165) hx hb dX5_setCsr_101 (by decide) ?_
        exact rmu_v (F := (f_X5_setCsr sz mo E a1 a2)) (E1 := (mmpie_ (mmie_ E false) true)) (by unfold f_X5_setCsr; rw [if_pos c_1, if_pos c_2, if_neg c_3]; try rfl) X hP hD hS hAe hr hlk dX5_setCsr_165
    ·
      refine lv_iconst (v := (1 : Int32)) hx hb dX5_setCsr_76 (by decide) ?_
      refine lv_goto (tgt := 81) hx hb dX5_setCsr_77 (by decide) ?_
      refine pf_X5_33 X hP hD hS true dX5_setCsr_81 (fun H locs hP hD hS => ?_)
      refine lv_aload_n hx hb dX5_setCsr_84 rfl (lv_at hl 0 rfl) ?_
      refine lv_iload_n hx hb dX5_setCsr_85 rfl (lv_at hl 2 rfl) ?_
      refine lv_sipush (v := (128 : Int32)) hx hb dX5_setCsr_86 (by decide) ?_
      refine lv_iand hx hb dX5_setCsr_89 ?_
      refine lv_if_eq (tgt := 97) hx hb dX5_setCsr_90 (by decide) (fun c_4 => ?_) (fun c_4 => ?_)
      ·
        refine lv_iconst (v := (0 : Int32)) hx hb dX5_setCsr_97 (by decide) ?_
        refine pf_X5_37 X hP hD hS false dX5_setCsr_98 (fun H locs hP hD hS => ?_)
        refine lv_goto (tgt := 165) hx hb dX5_setCsr_101 (by decide) ?_
        exact rmu_v (F := (f_X5_setCsr sz mo E a1 a2)) (E1 := (mmpie_ (mmie_ E true) false)) (by unfold f_X5_setCsr; rw [if_pos c_1, if_neg c_2, if_pos c_4]; try rfl) X hP hD hS hAe hr hlk dX5_setCsr_165
      ·
        refine lv_iconst (v := (1 : Int32)) hx hb dX5_setCsr_93 (by decide) ?_
        refine lv_goto (tgt := 98) hx hb dX5_setCsr_94 (by decide) ?_
        refine pf_X5_37 X hP hD hS true dX5_setCsr_98 (fun H locs hP hD hS => ?_)
        refine lv_goto (tgt := 165) hx hb dX5_setCsr_101 (by decide) ?_
        exact rmu_v (F := (f_X5_setCsr sz mo E a1 a2)) (E1 := (mmpie_ (mmie_ E true) true)) (by unfold f_X5_setCsr; rw [if_pos c_1, if_neg c_2, if_neg c_4]; try rfl) X hP hD hS hAe hr hlk dX5_setCsr_165
  by_cases c_5 : a1 = (772 : Int32)
  ·
    refine lv_lookup (off := 103) (tgt := 104) hx hb dX5_setCsr_1 (by decide) (by rw [c_5]; decide) (by decide) ?_
    refine lv_aload_n hx hb dX5_setCsr_104 rfl (lv_at hl 0 rfl) ?_
    refine lv_iload_n hx hb dX5_setCsr_105 rfl (lv_at hl 2 rfl) ?_
    refine lv_sipush (v := (2184 : Int32)) hx hb dX5_setCsr_106 (by decide) ?_
    refine lv_iand hx hb dX5_setCsr_109 ?_
    refine pf_X5_40 X hP hD hS (a2 &&& (2184 : Int32)) dX5_setCsr_110 (fun H locs hP hD hS => ?_)
    refine lv_goto (tgt := 165) hx hb dX5_setCsr_113 (by decide) ?_
    exact rmu_v (F := (f_X5_setCsr sz mo E a1 a2)) (E1 := (mmieBits_ E (a2 &&& (2184 : Int32)))) (by unfold f_X5_setCsr; rw [if_neg c_1, if_pos c_5]; try rfl) X hP hD hS hAe hr hlk dX5_setCsr_165
  by_cases c_6 : a1 = (773 : Int32)
  ·
    refine lv_lookup (off := 115) (tgt := 116) hx hb dX5_setCsr_1 (by decide) (by rw [c_6]; decide) (by decide) ?_
    refine lv_aload_n hx hb dX5_setCsr_116 rfl (lv_at hl 0 rfl) ?_
    refine lv_iload_n hx hb dX5_setCsr_117 rfl (lv_at hl 2 rfl) ?_
    refine lv_bipush (v := (-3 : Int32)) hx hb dX5_setCsr_118 (by decide) ?_
    refine lv_iand hx hb dX5_setCsr_120 ?_
    refine pf_X5_43 X hP hD hS (a2 &&& (-3 : Int32)) dX5_setCsr_121 (fun H locs hP hD hS => ?_)
    refine lv_goto (tgt := 165) hx hb dX5_setCsr_124 (by decide) ?_
    exact rmu_v (F := (f_X5_setCsr sz mo E a1 a2)) (E1 := (mmtvec_ E (a2 &&& (-3 : Int32)))) (by unfold f_X5_setCsr; rw [if_neg c_1, if_neg c_5, if_pos c_6]; try rfl) X hP hD hS hAe hr hlk dX5_setCsr_165
  by_cases c_7 : a1 = (832 : Int32)
  ·
    refine lv_lookup (off := 126) (tgt := 127) hx hb dX5_setCsr_1 (by decide) (by rw [c_7]; decide) (by decide) ?_
    refine lv_aload_n hx hb dX5_setCsr_127 rfl (lv_at hl 0 rfl) ?_
    refine lv_iload_n hx hb dX5_setCsr_128 rfl (lv_at hl 2 rfl) ?_
    refine pf_X5_46 X hP hD hS a2 dX5_setCsr_129 (fun H locs hP hD hS => ?_)
    refine lv_goto (tgt := 165) hx hb dX5_setCsr_132 (by decide) ?_
    exact rmu_v (F := (f_X5_setCsr sz mo E a1 a2)) (E1 := (mmscratch_ E a2)) (by unfold f_X5_setCsr; rw [if_neg c_1, if_neg c_5, if_neg c_6, if_pos c_7]; try rfl) X hP hD hS hAe hr hlk dX5_setCsr_165
  by_cases c_8 : a1 = (833 : Int32)
  ·
    refine lv_lookup (off := 134) (tgt := 135) hx hb dX5_setCsr_1 (by decide) (by rw [c_8]; decide) (by decide) ?_
    refine lv_aload_n hx hb dX5_setCsr_135 rfl (lv_at hl 0 rfl) ?_
    refine lv_iload_n hx hb dX5_setCsr_136 rfl (lv_at hl 2 rfl) ?_
    refine lv_bipush (v := (-4 : Int32)) hx hb dX5_setCsr_137 (by decide) ?_
    refine lv_iand hx hb dX5_setCsr_139 ?_
    refine pf_X5_49 X hP hD hS (a2 &&& (-4 : Int32)) dX5_setCsr_140 (fun H locs hP hD hS => ?_)
    refine lv_goto (tgt := 165) hx hb dX5_setCsr_143 (by decide) ?_
    exact rmu_v (F := (f_X5_setCsr sz mo E a1 a2)) (E1 := (mmepc_ E (a2 &&& (-4 : Int32)))) (by unfold f_X5_setCsr; rw [if_neg c_1, if_neg c_5, if_neg c_6, if_neg c_7, if_pos c_8]; try rfl) X hP hD hS hAe hr hlk dX5_setCsr_165
  by_cases c_9 : a1 = (834 : Int32)
  ·
    refine lv_lookup (off := 145) (tgt := 146) hx hb dX5_setCsr_1 (by decide) (by rw [c_9]; decide) (by decide) ?_
    refine lv_aload_n hx hb dX5_setCsr_146 rfl (lv_at hl 0 rfl) ?_
    refine lv_iload_n hx hb dX5_setCsr_147 rfl (lv_at hl 2 rfl) ?_
    refine lv_ldc (v := (-2147483633 : Int32)) hx hb X.1.2.2.2.1 (X.1.2.2.2.2 _ wd_687) dX5_setCsr_148 ?_
    refine lv_iand hx hb dX5_setCsr_150 ?_
    refine pf_X5_52 X hP hD hS (a2 &&& (-2147483633 : Int32)) dX5_setCsr_151 (fun H locs hP hD hS => ?_)
    refine lv_goto (tgt := 165) hx hb dX5_setCsr_154 (by decide) ?_
    exact rmu_v (F := (f_X5_setCsr sz mo E a1 a2)) (E1 := (mmcause_ E (a2 &&& (-2147483633 : Int32)))) (by unfold f_X5_setCsr; rw [if_neg c_1, if_neg c_5, if_neg c_6, if_neg c_7, if_neg c_8, if_pos c_9]; try rfl) X hP hD hS hAe hr hlk dX5_setCsr_165
  by_cases c_10 : a1 = (835 : Int32)
  ·
    refine lv_lookup (off := 156) (tgt := 157) hx hb dX5_setCsr_1 (by decide) (by rw [c_10]; decide) (by decide) ?_
    refine lv_aload_n hx hb dX5_setCsr_157 rfl (lv_at hl 0 rfl) ?_
    refine lv_iload_n hx hb dX5_setCsr_158 rfl (lv_at hl 2 rfl) ?_
    refine pf_X5_55 X hP hD hS a2 dX5_setCsr_159 (fun H locs hP hD hS => ?_)
    refine lv_goto (tgt := 165) hx hb dX5_setCsr_162 (by decide) ?_
    exact rmu_v (F := (f_X5_setCsr sz mo E a1 a2)) (E1 := (mmtval_ E a2)) (by unfold f_X5_setCsr; rw [if_neg c_1, if_neg c_5, if_neg c_6, if_neg c_7, if_neg c_8, if_neg c_9, if_pos c_10]; try rfl) X hP hD hS hAe hr hlk dX5_setCsr_165
  refine lv_lookup (off := 164) (tgt := 165) hx hb dX5_setCsr_1 (by decide) ((lv_osw c_1 (by decide)).trans ((lv_osw c_5 (by decide)).trans ((lv_osw c_6 (by decide)).trans ((lv_osw c_7 (by decide)).trans ((lv_osw c_8 (by decide)).trans ((lv_osw c_9 (by decide)).trans ((lv_osw c_10 (by decide)).trans rfl))))))) (by decide) ?_
  exact rmu_v (F := (f_X5_setCsr sz mo E a1 a2)) (E1 := E) (by unfold f_X5_setCsr; rw [if_neg c_1, if_neg c_5, if_neg c_6, if_neg c_7, if_neg c_8, if_neg c_9, if_neg c_10]; try rfl) X hP hD hS hAe hr hlk dX5_setCsr_165
