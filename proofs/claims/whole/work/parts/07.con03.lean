/-! contracts: X4_jump X4_offsetI X4_offsetJ X2_room X3_isTime X3_isUpper X3_half X3_holds X4_extended X4_read X4_g X4_reckoned X4_reckonWithNumber X4_unsigned X4_divided -/
set_option maxHeartbeats 4000000 in
set_option maxRecDepth 100000 in
theorem c_X4_jump (l : Launch) (D : va_G) (q : Nat → Nat) (ca : Nat → ClassId) (nW nB : Nat) (hk : KOk nW nB) (E : KS) (a1 : Int32) (a2 : Int32) : Mt l yX4_jump cX4_jump 3 (some .int) 2 D (tysK ca) [.ref (q 0), .int a1, .int a2] (cwK q ca nW nB E) (QcI D (cwK q ca nW nB E) (cwK q ca nW nB (f_X4_jump nW nB E a1 a2).2) (f_X4_jump nW nB E a1 a2).1) := by
  refine ent (own := RX4) rfl (by decide) (Nat.le_of_ble_eq_true rfl) ?_
  intro p e s m below meth c A ls X hr hlk hmn hAe hA hP hD hS hl
  have hx := X.1.1
  have hb := X.1.2.1
  have hl : lv_has ls 3 [(0, .ref (q 0)), (1, .int a1), (2, .int a2)] := hl
  refine lv_iload_n hx hb dX4_jump_0 rfl (lv_at hl 2 rfl) ?_
  refine lv_iconst (v := (3 : Int32)) hx hb dX4_jump_1 (by decide) ?_
  refine lv_iand hx hb dX4_jump_2 ?_
  refine lv_if_eq (tgt := 13) hx hb dX4_jump_3 (by decide) (fun c_1 => ?_) (fun c_1 => ?_)
  ·
    refine lv_aload_n hx hb dX4_jump_13 rfl (lv_at hl 0 rfl) ?_
    refine lv_iload_n hx hb dX4_jump_14 rfl (lv_at hl 1 rfl) ?_
    refine lv_aload_n hx hb dX4_jump_15 rfl (lv_at hl 0 rfl) ?_
    refine gf_X4_56 X hP dX4_jump_16 ?_
    refine lv_iconst (v := (4 : Int32)) hx hb dX4_jump_19 (by decide) ?_
    refine lv_iadd hx hb dX4_jump_20 ?_
    refine go_v (rn_V (ci := 4) (q0 := 0) X (c_X4_setD l D q ca nW nB hk E a1 ((kplace E) + (4 : Int32))) ok_X4_setD wd_257 ⟨by decide, by decide⟩ hP hD rfl rfl rfl hl.1 rfl (Nat.le_of_ble_eq_true rfl) dX4_jump_21 ⟨Nat.zero_le _, Nat.zero_le _⟩) hP hD hS hA (fun H locs hP hD hS => ?_)
    refine lv_aload_n hx hb dX4_jump_24 rfl (lv_at hl 0 rfl) ?_
    refine lv_iload_n hx hb dX4_jump_25 rfl (lv_at hl 2 rfl) ?_
    refine go_i (rn_V (ci := 4) (q0 := 0) X (c_X4_retireAt l D q ca nW nB hk (f_X4_setD nW nB E a1 ((kplace E) + (4 : Int32))) a2) ok_X4_retireAt wd_261 ⟨by decide, by decide⟩ hP hD rfl rfl rfl hl.1 rfl (Nat.le_of_ble_eq_true rfl) dX4_jump_26 ⟨Nat.zero_le _, Nat.zero_le _⟩) hP hD hS hA (fun H locs hP hD hS => ?_)
    exact rku_i (v := (f_X4_retireAt nW nB (f_X4_setD nW nB E a1 ((kplace E) + (4 : Int32))) a2).1) (F := (f_X4_jump nW nB E a1 a2)) (E1 := (f_X4_retireAt nW nB (f_X4_setD nW nB E a1 ((kplace E) + (4 : Int32))) a2).2) (by unfold f_X4_jump; rw [if_pos c_1]; try rfl) X hP hD hS hAe hr hlk dX4_jump_29
  ·
    refine lv_aload_n hx hb dX4_jump_6 rfl (lv_at hl 0 rfl) ?_
    refine lv_iconst (v := (0 : Int32)) hx hb dX4_jump_7 (by decide) ?_
    refine lv_iload_n hx hb dX4_jump_8 rfl (lv_at hl 2 rfl) ?_
    refine go_i (rn_V (ci := 4) (q0 := 0) X (c_X4_trap l D q ca nW nB hk E (0 : Int32) a2) ok_X4_trap wd_249 ⟨by decide, by decide⟩ hP hD rfl rfl rfl hl.1 rfl (Nat.le_of_ble_eq_true rfl) dX4_jump_9 ⟨Nat.zero_le _, Nat.zero_le _⟩) hP hD hS hA (fun H locs hP hD hS => ?_)
    exact rku_i (v := (f_X4_trap nW nB E (0 : Int32) a2).1) (F := (f_X4_jump nW nB E a1 a2)) (E1 := (f_X4_trap nW nB E (0 : Int32) a2).2) (by unfold f_X4_jump; rw [if_neg c_1]; try rfl) X hP hD hS hAe hr hlk dX4_jump_12
set_option maxHeartbeats 4000000 in
set_option maxRecDepth 100000 in
theorem c_X4_offsetI (l : Launch) (D : va_G) (tys : List (ClassId × FieldType)) (ws : va_W) (a1 : Int32) : Mt l yX4_offsetI cX4_offsetI 1 (some .int) 0 D tys [.int a1] ws (QcI D ws ws (f_X4_offsetI a1)) := by
  refine ent (own := RX4) rfl (by decide) (Nat.le_of_ble_eq_true rfl) ?_
  intro p e s m below meth c A ls X hr hlk hmn hAe hA hP hD hS hl
  have hx := X.1.1
  have hb := X.1.2.1
  have hl : lv_has ls 1 [(0, .int a1)] := hl
  refine lv_iload_n hx hb dX4_offsetI_0 rfl (lv_at hl 0 rfl) ?_
  refine lv_bipush (v := (20 : Int32)) hx hb dX4_offsetI_1 (by decide) ?_
  refine lv_ishr hx hb dX4_offsetI_3 ?_
  exact rg_i (v := (a1 >>> ((20 : Int32) &&& 31))) (F := (f_X4_offsetI a1)) rfl X hP hD hS hAe hr hlk dX4_offsetI_4
set_option maxHeartbeats 4000000 in
set_option maxRecDepth 100000 in
theorem c_X4_offsetJ (l : Launch) (D : va_G) (tys : List (ClassId × FieldType)) (ws : va_W) (a1 : Int32) : Mt l yX4_offsetJ cX4_offsetJ 1 (some .int) 0 D tys [.int a1] ws (QcI D ws ws (f_X4_offsetJ a1)) := by
  refine ent (own := RX4) rfl (by decide) (Nat.le_of_ble_eq_true rfl) ?_
  intro p e s m below meth c A ls X hr hlk hmn hAe hA hP hD hS hl
  have hx := X.1.1
  have hb := X.1.2.1
  have hl : lv_has ls 1 [(0, .int a1)] := hl
  refine lv_iload_n hx hb dX4_offsetJ_0 rfl (lv_at hl 0 rfl) ?_
  refine lv_bipush (v := (31 : Int32)) hx hb dX4_offsetJ_1 (by decide) ?_
  refine lv_ishr hx hb dX4_offsetJ_3 ?_
  refine lv_bipush (v := (20 : Int32)) hx hb dX4_offsetJ_4 (by decide) ?_
  refine lv_ishl hx hb dX4_offsetJ_6 ?_
  refine lv_iload_n hx hb dX4_offsetJ_7 rfl (lv_at hl 0 rfl) ?_
  refine lv_ldc (v := (1044480 : Int32)) hx hb X.1.2.2.2.1 (X.1.2.2.2.2 _ wd_268) dX4_offsetJ_8 ?_
  refine lv_iand hx hb dX4_offsetJ_10 ?_
  refine lv_ior hx hb dX4_offsetJ_11 ?_
  refine lv_iload_n hx hb dX4_offsetJ_12 rfl (lv_at hl 0 rfl) ?_
  refine lv_bipush (v := (20 : Int32)) hx hb dX4_offsetJ_13 (by decide) ?_
  refine lv_iushr (v := (jushr a1 (20 : Int32))) hx hb dX4_offsetJ_15 rfl ?_
  refine lv_iconst (v := (1 : Int32)) hx hb dX4_offsetJ_16 (by decide) ?_
  refine lv_iand hx hb dX4_offsetJ_17 ?_
  refine lv_bipush (v := (11 : Int32)) hx hb dX4_offsetJ_18 (by decide) ?_
  refine lv_ishl hx hb dX4_offsetJ_20 ?_
  refine lv_ior hx hb dX4_offsetJ_21 ?_
  refine lv_iload_n hx hb dX4_offsetJ_22 rfl (lv_at hl 0 rfl) ?_
  refine lv_bipush (v := (21 : Int32)) hx hb dX4_offsetJ_23 (by decide) ?_
  refine lv_iushr (v := (jushr a1 (21 : Int32))) hx hb dX4_offsetJ_25 rfl ?_
  refine lv_sipush (v := (1023 : Int32)) hx hb dX4_offsetJ_26 (by decide) ?_
  refine lv_iand hx hb dX4_offsetJ_29 ?_
  refine lv_iconst (v := (1 : Int32)) hx hb dX4_offsetJ_30 (by decide) ?_
  refine lv_ishl hx hb dX4_offsetJ_31 ?_
  refine lv_ior hx hb dX4_offsetJ_32 ?_
  exact rg_i (v := (((((a1 >>> ((31 : Int32) &&& 31)) <<< ((20 : Int32) &&& 31)) ||| (a1 &&& (1044480 : Int32))) ||| (((jushr a1 (20 : Int32)) &&& (1 : Int32)) <<< ((11 : Int32) &&& 31))) ||| (((jushr a1 (21 : Int32)) &&& (1023 : Int32)) <<< ((1 : Int32) &&& 31)))) (F := (f_X4_offsetJ a1)) rfl X hP hD hS hAe hr hlk dX4_offsetJ_33
set_option maxHeartbeats 4000000 in
set_option maxRecDepth 100000 in
theorem c_X2_room (l : Launch) (D : va_G) (q : Nat → Nat) (ca : Nat → ClassId) (nW nB : Nat) (hk : KOk nW nB) (E : KS) : Mt l yX2_room cX2_room 1 (some .int) 0 D (tysK ca) [.ref (q 4)] (cwK q ca nW nB E) (QcI D (cwK q ca nW nB E) (cwK q ca nW nB E) (f_X2_room nW nB E)) := by
  refine ent (own := RX2) rfl (by decide) (Nat.le_of_ble_eq_true rfl) ?_
  intro p e s m below meth c A ls X hr hlk hmn hAe hA hP hD hS hl
  have hx := X.1.1
  have hb := X.1.2.1
  have hl : lv_has ls 1 [(0, .ref (q 4))] := hl
  refine lv_aload_n hx hb dX2_room_0 rfl (lv_at hl 0 rfl) ?_
  refine gf_X2_7 X hP dX2_room_1 ?_
  refine klen_5 X hP dX2_room_4 ?_
  refine lv_aload_n hx hb dX2_room_5 rfl (lv_at hl 0 rfl) ?_
  refine gf_X2_13 X hP dX2_room_6 ?_
  refine lv_isub hx hb dX2_room_9 ?_
  exact rg_i (v := ((nI nB) - (ksent E))) (F := (f_X2_room nW nB E)) rfl X hP hD hS hAe hr hlk dX2_room_10
set_option maxHeartbeats 4000000 in
set_option maxRecDepth 100000 in
theorem c_X3_isTime (l : Launch) (D : va_G) (tys : List (ClassId × FieldType)) (ws : va_W) (a1 : Int32) : Mt l yX3_isTime cX3_isTime 1 (some .boolean) 0 D tys [.int a1] ws (QcI D ws ws (b2i (f_X3_isTime a1))) := by
  refine ent (own := RX3) rfl (by decide) (Nat.le_of_ble_eq_true rfl) ?_
  intro p e s m below meth c A ls X hr hlk hmn hAe hA hP hD hS hl
  have hx := X.1.1
  have hb := X.1.2.1
  have hl : lv_has ls 1 [(0, .int a1)] := hl
  refine lv_iload_n hx hb dX3_isTime_0 rfl (lv_at hl 0 rfl) ?_
  refine lv_ldc (v := (33603576 : Int32)) hx hb X.1.2.2.2.1 (X.1.2.2.2.2 _ wd_324) dX3_isTime_1 ?_
  refine lv_icmp_eq (tgt := 12) hx hb dX3_isTime_3 (by decide) (fun c_1 => ?_) (fun c_1 => ?_)
  ·
    refine lv_iconst (v := (1 : Int32)) hx hb dX3_isTime_12 (by decide) ?_
    refine lv_goto (tgt := 17) hx hb dX3_isTime_13 (by decide) ?_
    exact rg_z (v := true) (F := (f_X3_isTime a1)) (by unfold f_X3_isTime; rw [if_pos c_1]; try rfl) X hP hD hS hAe hr hlk dX3_isTime_17
  ·
    refine lv_iload_n hx hb dX3_isTime_6 rfl (lv_at hl 0 rfl) ?_
    refine lv_ldc (v := (33603580 : Int32)) hx hb X.1.2.2.2.1 (X.1.2.2.2.2 _ wd_325) dX3_isTime_7 ?_
    refine lv_icmp_ne (tgt := 16) hx hb dX3_isTime_9 (by decide) (fun c_2 => ?_) (fun c_2 => ?_)
    ·
      refine lv_iconst (v := (0 : Int32)) hx hb dX3_isTime_16 (by decide) ?_
      exact rg_z (v := false) (F := (f_X3_isTime a1)) (by unfold f_X3_isTime; rw [if_neg c_1, if_neg c_2]; try rfl) X hP hD hS hAe hr hlk dX3_isTime_17
    ·
      refine lv_iconst (v := (1 : Int32)) hx hb dX3_isTime_12 (by decide) ?_
      refine lv_goto (tgt := 17) hx hb dX3_isTime_13 (by decide) ?_
      exact rg_z (v := true) (F := (f_X3_isTime a1)) (by unfold f_X3_isTime; rw [if_neg c_1, if_pos c_2]; try rfl) X hP hD hS hAe hr hlk dX3_isTime_17
set_option maxHeartbeats 4000000 in
set_option maxRecDepth 100000 in
theorem c_X3_isUpper (l : Launch) (D : va_G) (tys : List (ClassId × FieldType)) (ws : va_W) (a1 : Int32) : Mt l yX3_isUpper cX3_isUpper 1 (some .boolean) 0 D tys [.int a1] ws (QcI D ws ws (b2i (f_X3_isUpper a1))) := by
  refine ent (own := RX3) rfl (by decide) (Nat.le_of_ble_eq_true rfl) ?_
  intro p e s m below meth c A ls X hr hlk hmn hAe hA hP hD hS hl
  have hx := X.1.1
  have hb := X.1.2.1
  have hl : lv_has ls 1 [(0, .int a1)] := hl
  refine lv_iload_n hx hb dX3_isUpper_0 rfl (lv_at hl 0 rfl) ?_
  refine lv_ldc (v := (33603580 : Int32)) hx hb X.1.2.2.2.1 (X.1.2.2.2.2 _ wd_325) dX3_isUpper_1 ?_
  refine lv_icmp_eq (tgt := 12) hx hb dX3_isUpper_3 (by decide) (fun c_1 => ?_) (fun c_1 => ?_)
  ·
    refine lv_iconst (v := (1 : Int32)) hx hb dX3_isUpper_12 (by decide) ?_
    refine lv_goto (tgt := 17) hx hb dX3_isUpper_13 (by decide) ?_
    exact rg_z (v := true) (F := (f_X3_isUpper a1)) (by unfold f_X3_isUpper; rw [if_pos c_1]; try rfl) X hP hD hS hAe hr hlk dX3_isUpper_17
  ·
    refine lv_iload_n hx hb dX3_isUpper_6 rfl (lv_at hl 0 rfl) ?_
    refine lv_ldc (v := (33570820 : Int32)) hx hb X.1.2.2.2.1 (X.1.2.2.2.2 _ wd_327) dX3_isUpper_7 ?_
    refine lv_icmp_ne (tgt := 16) hx hb dX3_isUpper_9 (by decide) (fun c_2 => ?_) (fun c_2 => ?_)
    ·
      refine lv_iconst (v := (0 : Int32)) hx hb dX3_isUpper_16 (by decide) ?_
      exact rg_z (v := false) (F := (f_X3_isUpper a1)) (by unfold f_X3_isUpper; rw [if_neg c_1, if_neg c_2]; try rfl) X hP hD hS hAe hr hlk dX3_isUpper_17
    ·
      refine lv_iconst (v := (1 : Int32)) hx hb dX3_isUpper_12 (by decide) ?_
      refine lv_goto (tgt := 17) hx hb dX3_isUpper_13 (by decide) ?_
      exact rg_z (v := true) (F := (f_X3_isUpper a1)) (by unfold f_X3_isUpper; rw [if_neg c_1, if_pos c_2]; try rfl) X hP hD hS hAe hr hlk dX3_isUpper_17
set_option maxHeartbeats 4000000 in
set_option maxRecDepth 100000 in
theorem c_X3_half (l : Launch) (D : va_G) (q : Nat → Nat) (ca : Nat → ClassId) (nW nB : Nat) (hk : KOk nW nB) (E : KS) (a1 : Int32) : Mt l yX3_half cX3_half 4 (some .int) 1 D (tysK ca) [.ref (q 3), .int a1] (cwK q ca nW nB E) (QcI D (cwK q ca nW nB E) (cwK q ca nW nB E) (f_X3_half nW nB E a1)) := by
  refine ent (own := RX3) rfl (by decide) (Nat.le_of_ble_eq_true rfl) ?_
  intro p e s m below meth c A ls X hr hlk hmn hAe hA hP hD hS hl
  have hx := X.1.1
  have hb := X.1.2.1
  have hl : lv_has ls 4 [(0, .ref (q 3)), (1, .int a1)] := hl
  refine lv_iload_n hx hb dX3_half_0 rfl (lv_at hl 1 rfl) ?_
  refine go_i (rn_S X (c_X3_isTime l D _ _ a1) ok_X3_isTime wd_332 ⟨by decide, by decide⟩ hP hD rfl hl.1 rfl (Nat.le_of_ble_eq_true rfl) dX3_half_1 ⟨Nat.zero_le _, Nat.zero_le _⟩) hP hD hS hA (fun H locs hP hD hS => ?_)
  refine lv_if_eq (tgt := 14) hx hb dX3_half_4 (by decide) (fun c_1 => ?_) (fun c_1 => ?_)
  ·
    refine lv_aload_n hx hb dX3_half_14 rfl (lv_at hl 0 rfl) ?_
    refine gf_X3_15 X hP dX3_half_15 ?_
    refine lv_lstore_n (lv' := [(2, .long (klimit E)), (0, .ref (q 3)), (1, .int a1)]) hx hb dX3_half_18 rfl hl (by decide) rfl (fun ls hl => ?_)
    refine lv_iload_n hx hb dX3_half_19 rfl (lv_at hl 2 rfl) ?_
    refine go_i (rn_S X (c_X3_isUpper l D _ _ a1) ok_X3_isUpper wd_335 ⟨by decide, by decide⟩ hP hD rfl hl.1 rfl (Nat.le_of_ble_eq_true rfl) dX3_half_20 ⟨Nat.zero_le _, Nat.zero_le _⟩) hP hD hS hA (fun H locs hP hD hS => ?_)
    refine lv_if_eq (tgt := 33) hx hb dX3_half_23 (by decide) (fun c_2 => ?_) (fun c_2 => ?_)
    ·
      refine lv_lload_n hx hb dX3_half_33 rfl (lv_at hl 0 rfl) ?_
      refine lv_l2i (v := ((klimit E)).toInt32) hx hb dX3_half_34 rfl ?_
      exact rg_i (v := ((klimit E)).toInt32) (F := (f_X3_half nW nB E a1)) (by unfold f_X3_half; rw [if_pos c_1, if_pos c_2]; try rfl) X hP hD hS hAe hr hlk dX3_half_35
    ·
      refine lv_lload_n hx hb dX3_half_26 rfl (lv_at hl 0 rfl) ?_
      refine lv_bipush (v := (32 : Int32)) hx hb dX3_half_27 (by decide) ?_
      refine lv_lushr (v := (jlushr (klimit E) (32 : Int32))) hx hb dX3_half_29 rfl ?_
      refine lv_goto (tgt := 34) hx hb dX3_half_30 (by decide) ?_
      refine lv_l2i (v := ((jlushr (klimit E) (32 : Int32))).toInt32) hx hb dX3_half_34 rfl ?_
      exact rg_i (v := ((jlushr (klimit E) (32 : Int32))).toInt32) (F := (f_X3_half nW nB E a1)) (by unfold f_X3_half; rw [if_pos c_1, if_neg c_2]; try rfl) X hP hD hS hAe hr hlk dX3_half_35
  ·
    refine lv_aload_n hx hb dX3_half_7 rfl (lv_at hl 0 rfl) ?_
    refine gf_X3_7 X hP dX3_half_8 ?_
    refine lv_goto (tgt := 18) hx hb dX3_half_11 (by decide) ?_
    refine lv_lstore_n (lv' := [(2, .long (ktime E)), (0, .ref (q 3)), (1, .int a1)]) hx hb dX3_half_18 rfl hl (by decide) rfl (fun ls hl => ?_)
    refine lv_iload_n hx hb dX3_half_19 rfl (lv_at hl 2 rfl) ?_
    refine go_i (rn_S X (c_X3_isUpper l D _ _ a1) ok_X3_isUpper wd_335 ⟨by decide, by decide⟩ hP hD rfl hl.1 rfl (Nat.le_of_ble_eq_true rfl) dX3_half_20 ⟨Nat.zero_le _, Nat.zero_le _⟩) hP hD hS hA (fun H locs hP hD hS => ?_)
    refine lv_if_eq (tgt := 33) hx hb dX3_half_23 (by decide) (fun c_3 => ?_) (fun c_3 => ?_)
    ·
      refine lv_lload_n hx hb dX3_half_33 rfl (lv_at hl 0 rfl) ?_
      refine lv_l2i (v := ((ktime E)).toInt32) hx hb dX3_half_34 rfl ?_
      exact rg_i (v := ((ktime E)).toInt32) (F := (f_X3_half nW nB E a1)) (by unfold f_X3_half; rw [if_neg c_1, if_pos c_3]; try rfl) X hP hD hS hAe hr hlk dX3_half_35
    ·
      refine lv_lload_n hx hb dX3_half_26 rfl (lv_at hl 0 rfl) ?_
      refine lv_bipush (v := (32 : Int32)) hx hb dX3_half_27 (by decide) ?_
      refine lv_lushr (v := (jlushr (ktime E) (32 : Int32))) hx hb dX3_half_29 rfl ?_
      refine lv_goto (tgt := 34) hx hb dX3_half_30 (by decide) ?_
      refine lv_l2i (v := ((jlushr (ktime E) (32 : Int32))).toInt32) hx hb dX3_half_34 rfl ?_
      exact rg_i (v := ((jlushr (ktime E) (32 : Int32))).toInt32) (F := (f_X3_half nW nB E a1)) (by unfold f_X3_half; rw [if_neg c_1, if_neg c_3]; try rfl) X hP hD hS hAe hr hlk dX3_half_35
set_option maxHeartbeats 4000000 in
set_option maxRecDepth 100000 in
theorem c_X3_holds (l : Launch) (D : va_G) (tys : List (ClassId × FieldType)) (ws : va_W) (a1 : Int32) : Mt l yX3_holds cX3_holds 1 (some .boolean) 0 D tys [.int a1] ws (QcI D ws ws (b2i (f_X3_holds a1))) := by
  refine ent (own := RX3) rfl (by decide) (Nat.le_of_ble_eq_true rfl) ?_
  intro p e s m below meth c A ls X hr hlk hmn hAe hA hP hD hS hl
  have hx := X.1.1
  have hb := X.1.2.1
  have hl : lv_has ls 1 [(0, .int a1)] := hl
  refine lv_iload_n hx hb dX3_holds_0 rfl (lv_at hl 0 rfl) ?_
  refine lv_ldc (v := (33603576 : Int32)) hx hb X.1.2.2.2.1 (X.1.2.2.2.2 _ wd_324) dX3_holds_1 ?_
  refine lv_icmp_eq (tgt := 24) hx hb dX3_holds_3 (by decide) (fun c_1 => ?_) (fun c_1 => ?_)
  ·
    refine lv_iconst (v := (1 : Int32)) hx hb dX3_holds_24 (by decide) ?_
    refine lv_goto (tgt := 29) hx hb dX3_holds_25 (by decide) ?_
    exact rg_z (v := true) (F := (f_X3_holds a1)) (by unfold f_X3_holds; rw [if_pos c_1]; try rfl) X hP hD hS hAe hr hlk dX3_holds_29
  ·
    refine lv_iload_n hx hb dX3_holds_6 rfl (lv_at hl 0 rfl) ?_
    refine lv_ldc (v := (33603580 : Int32)) hx hb X.1.2.2.2.1 (X.1.2.2.2.2 _ wd_325) dX3_holds_7 ?_
    refine lv_icmp_eq (tgt := 24) hx hb dX3_holds_9 (by decide) (fun c_2 => ?_) (fun c_2 => ?_)
    ·
      refine lv_iconst (v := (1 : Int32)) hx hb dX3_holds_24 (by decide) ?_
      refine lv_goto (tgt := 29) hx hb dX3_holds_25 (by decide) ?_
      exact rg_z (v := true) (F := (f_X3_holds a1)) (by unfold f_X3_holds; rw [if_neg c_1, if_pos c_2]; try rfl) X hP hD hS hAe hr hlk dX3_holds_29
    ·
      refine lv_iload_n hx hb dX3_holds_12 rfl (lv_at hl 0 rfl) ?_
      refine lv_ldc (v := (33570816 : Int32)) hx hb X.1.2.2.2.1 (X.1.2.2.2.2 _ wd_326) dX3_holds_13 ?_
      refine lv_icmp_eq (tgt := 24) hx hb dX3_holds_15 (by decide) (fun c_3 => ?_) (fun c_3 => ?_)
      ·
        refine lv_iconst (v := (1 : Int32)) hx hb dX3_holds_24 (by decide) ?_
        refine lv_goto (tgt := 29) hx hb dX3_holds_25 (by decide) ?_
        exact rg_z (v := true) (F := (f_X3_holds a1)) (by unfold f_X3_holds; rw [if_neg c_1, if_neg c_2, if_pos c_3]; try rfl) X hP hD hS hAe hr hlk dX3_holds_29
      ·
        refine lv_iload_n hx hb dX3_holds_18 rfl (lv_at hl 0 rfl) ?_
        refine lv_ldc (v := (33570820 : Int32)) hx hb X.1.2.2.2.1 (X.1.2.2.2.2 _ wd_327) dX3_holds_19 ?_
        refine lv_icmp_ne (tgt := 28) hx hb dX3_holds_21 (by decide) (fun c_4 => ?_) (fun c_4 => ?_)
        ·
          refine lv_iconst (v := (0 : Int32)) hx hb dX3_holds_28 (by decide) ?_
          exact rg_z (v := false) (F := (f_X3_holds a1)) (by unfold f_X3_holds; rw [if_neg c_1, if_neg c_2, if_neg c_3, if_neg c_4]; try rfl) X hP hD hS hAe hr hlk dX3_holds_29
        ·
          refine lv_iconst (v := (1 : Int32)) hx hb dX3_holds_24 (by decide) ?_
          refine lv_goto (tgt := 29) hx hb dX3_holds_25 (by decide) ?_
          exact rg_z (v := true) (F := (f_X3_holds a1)) (by unfold f_X3_holds; rw [if_neg c_1, if_neg c_2, if_neg c_3, if_pos c_4]; try rfl) X hP hD hS hAe hr hlk dX3_holds_29
set_option maxHeartbeats 4000000 in
set_option maxRecDepth 100000 in
theorem c_X4_extended (l : Launch) (D : va_G) (tys : List (ClassId × FieldType)) (ws : va_W) (a1 : Int32) (a2 : Int32) : Mt l yX4_extended cX4_extended 2 (some .int) 0 D tys [.int a1, .int a2] ws (QcI D ws ws (f_X4_extended a1 a2)) := by
  refine ent (own := RX4) rfl (by decide) (Nat.le_of_ble_eq_true rfl) ?_
  intro p e s m below meth c A ls X hr hlk hmn hAe hA hP hD hS hl
  have hx := X.1.1
  have hb := X.1.2.1
  have hl : lv_has ls 2 [(0, .int a1), (1, .int a2)] := hl
  refine lv_iload_n hx hb dX4_extended_0 rfl (lv_at hl 0 rfl) ?_
  by_cases c_1 : a1 = (0 : Int32)
  ·
    refine lv_lookup (off := 27) (tgt := 28) hx hb dX4_extended_1 (by decide) (by rw [c_1]; decide) (by decide) ?_
    refine lv_iload_n hx hb dX4_extended_28 rfl (lv_at hl 1 rfl) ?_
    refine lv_i2b (v := (a2).toInt8.toInt32) hx hb dX4_extended_29 rfl ?_
    exact rg_i (v := (a2).toInt8.toInt32) (F := (f_X4_extended a1 a2)) (by unfold f_X4_extended; rw [if_pos c_1]; try rfl) X hP hD hS hAe hr hlk dX4_extended_30
  by_cases c_2 : a1 = (1 : Int32)
  ·
    refine lv_lookup (off := 30) (tgt := 31) hx hb dX4_extended_1 (by decide) (by rw [c_2]; decide) (by decide) ?_
    refine lv_iload_n hx hb dX4_extended_31 rfl (lv_at hl 1 rfl) ?_
    refine lv_i2s (v := (a2).toInt16.toInt32) hx hb dX4_extended_32 rfl ?_
    exact rg_i (v := (a2).toInt16.toInt32) (F := (f_X4_extended a1 a2)) (by unfold f_X4_extended; rw [if_neg c_1, if_pos c_2]; try rfl) X hP hD hS hAe hr hlk dX4_extended_33
  refine lv_lookup (off := 33) (tgt := 34) hx hb dX4_extended_1 (by decide) ((lv_osw c_1 (by decide)).trans ((lv_osw c_2 (by decide)).trans rfl)) (by decide) ?_
  refine lv_iload_n hx hb dX4_extended_34 rfl (lv_at hl 1 rfl) ?_
  exact rg_i (v := a2) (F := (f_X4_extended a1 a2)) (by unfold f_X4_extended; rw [if_neg c_1, if_neg c_2]; try rfl) X hP hD hS hAe hr hlk dX4_extended_35
set_option maxHeartbeats 4000000 in
set_option maxRecDepth 100000 in
theorem c_X4_read (l : Launch) (D : va_G) (q : Nat → Nat) (ca : Nat → ClassId) (nW nB : Nat) (hk : KOk nW nB) (E : KS) (a1 : Int32) : Mt l yX4_read cX4_read 5 (some .int) 3 D (tysK ca) [.ref (q 0), .int a1] (cwK q ca nW nB E) (QcI D (cwK q ca nW nB E) (cwK q ca nW nB (f_X4_read nW nB E a1).2) (f_X4_read nW nB E a1).1) := by
  refine ent (own := RX4) rfl (by decide) (Nat.le_of_ble_eq_true rfl) ?_
  intro p e s m below meth c A ls X hr hlk hmn hAe hA hP hD hS hl
  have hx := X.1.1
  have hb := X.1.2.1
  have hl : lv_has ls 5 [(0, .ref (q 0)), (1, .int a1)] := hl
  refine lv_iload_n hx hb dX4_read_0 rfl (lv_at hl 1 rfl) ?_
  refine go_i (rn_S X (c_X4_f l D _ _ a1) ok_X4_f wd_273 ⟨by decide, by decide⟩ hP hD rfl hl.1 rfl (Nat.le_of_ble_eq_true rfl) dX4_read_1 ⟨Nat.zero_le _, Nat.zero_le _⟩) hP hD hS hA (fun H locs hP hD hS => ?_)
  refine lv_istore_n (lv' := [(2, .int (f_X4_f a1)), (0, .ref (q 0)), (1, .int a1)]) hx hb dX4_read_4 rfl hl (by decide) rfl (fun ls hl => ?_)
  refine lv_iload_n hx hb dX4_read_5 rfl (lv_at hl 0 rfl) ?_
  refine lv_iconst (v := (3 : Int32)) hx hb dX4_read_6 (by decide) ?_
  refine lv_icmp_eq (tgt := 15) hx hb dX4_read_7 (by decide) (fun c_1 => ?_) (fun c_1 => ?_)
  ·
    refine lv_aload_n hx hb dX4_read_15 rfl (lv_at hl 1 rfl) ?_
    refine lv_iload_n hx hb dX4_read_16 rfl (lv_at hl 2 rfl) ?_
    refine go_i (rn_V (ci := 4) (q0 := 0) X (c_X4_illegal l D q ca nW nB hk E a1) ok_X4_illegal wd_286 ⟨by decide, by decide⟩ hP hD rfl rfl rfl hl.1 rfl (Nat.le_of_ble_eq_true rfl) dX4_read_17 ⟨Nat.zero_le _, Nat.zero_le _⟩) hP hD hS hA (fun H locs hP hD hS => ?_)
    exact rku_i (v := (f_X4_illegal nW nB E a1).1) (F := (f_X4_read nW nB E a1)) (E1 := (f_X4_illegal nW nB E a1).2) (by unfold f_X4_read; rw [if_pos c_1]; try rfl) X hP hD hS hAe hr hlk dX4_read_20
  ·
    refine lv_iload_n hx hb dX4_read_10 rfl (lv_at hl 0 rfl) ?_
    refine lv_iconst (v := (5 : Int32)) hx hb dX4_read_11 (by decide) ?_
    refine lv_icmp_le (tgt := 21) hx hb dX4_read_12 (by decide) (fun c_2 => ?_) (fun c_2 => ?_)
    ·
      refine lv_iconst (v := (1 : Int32)) hx hb dX4_read_21 (by decide) ?_
      refine lv_iload_n hx hb dX4_read_22 rfl (lv_at hl 0 rfl) ?_
      refine lv_iconst (v := (3 : Int32)) hx hb dX4_read_23 (by decide) ?_
      refine lv_iand hx hb dX4_read_24 ?_
      refine lv_ishl hx hb dX4_read_25 ?_
      refine lv_istore_n (lv' := [(3, .int ((1 : Int32) <<< (((f_X4_f a1) &&& (3 : Int32)) &&& 31))), (2, .int (f_X4_f a1)), (0, .ref (q 0)), (1, .int a1)]) hx hb dX4_read_26 rfl hl (by decide) rfl (fun ls hl => ?_)
      refine lv_aload_n hx hb dX4_read_27 rfl (lv_at hl 2 rfl) ?_
      refine lv_iload_n hx hb dX4_read_28 rfl (lv_at hl 3 rfl) ?_
      refine go_i (rn_V (ci := 4) (q0 := 0) X (c_X4_a l D q ca nW nB hk E a1) ok_X4_a wd_276 ⟨by decide, by decide⟩ hP hD rfl rfl rfl hl.1 rfl (Nat.le_of_ble_eq_true rfl) dX4_read_29 ⟨Nat.zero_le _, Nat.zero_le _⟩) hP hD hS hA (fun H locs hP hD hS => ?_)
      refine lv_iload_n hx hb dX4_read_32 rfl (lv_at hl 3 rfl) ?_
      refine go_i (rn_S X (c_X4_offsetI l D _ _ a1) ok_X4_offsetI wd_283 ⟨by decide, by decide⟩ hP hD rfl hl.1 rfl (Nat.le_of_ble_eq_true rfl) dX4_read_33 ⟨Nat.zero_le _, Nat.zero_le _⟩) hP hD hS hA (fun H locs hP hD hS => ?_)
      refine lv_iadd hx hb dX4_read_36 ?_
      refine lv_istore (lv' := [(4, .int ((f_X4_a nW nB E a1) + (f_X4_offsetI a1))), (3, .int ((1 : Int32) <<< (((f_X4_f a1) &&& (3 : Int32)) &&& 31))), (2, .int (f_X4_f a1)), (0, .ref (q 0)), (1, .int a1)]) hx hb dX4_read_37 hl (by decide) rfl (fun ls hl => ?_)
      refine lv_iload hx hb dX4_read_39 (lv_at hl 0 rfl) ?_
      refine lv_iload_n hx hb dX4_read_41 rfl (lv_at hl 1 rfl) ?_
      refine lv_iconst (v := (1 : Int32)) hx hb dX4_read_42 (by decide) ?_
      refine lv_isub hx hb dX4_read_43 ?_
      refine lv_iand hx hb dX4_read_44 ?_
      refine lv_if_eq (tgt := 56) hx hb dX4_read_45 (by decide) (fun c_3 => ?_) (fun c_3 => ?_)
      ·
        refine lv_aload_n hx hb dX4_read_56 rfl (lv_at hl 3 rfl) ?_
        refine gf_X4_24 X hP dX4_read_57 ?_
        refine lv_iload hx hb dX4_read_60 (lv_at hl 0 rfl) ?_
        refine go_i (rn_V (ci := 1) (q0 := 1) X (c_X1_holds l D q ca nW nB hk E ((f_X4_a nW nB E a1) + (f_X4_offsetI a1))) ok_X1_holds wd_187 ⟨by decide, by decide⟩ hP hD rfl rfl rfl hl.1 rfl (Nat.le_of_ble_eq_true rfl) dX4_read_62 ⟨Nat.zero_le _, Nat.zero_le _⟩) hP hD hS hA (fun H locs hP hD hS => ?_)
        refine lv_if_eq (tgt := 88) hx hb dX4_read_65 (by decide) (fun c_4 => ?_) (fun c_4 => ?_)
        ·
          refine lv_iload_n hx hb dX4_read_88 rfl (lv_at hl 1 rfl) ?_
          refine lv_iconst (v := (4 : Int32)) hx hb dX4_read_89 (by decide) ?_
          refine lv_icmp_ne (tgt := 116) hx hb dX4_read_90 (by decide) (fun c_5 => ?_) (fun c_5 => ?_)
          ·
            refine lv_iload_n hx hb dX4_read_116 rfl (lv_at hl 1 rfl) ?_
            refine lv_iconst (v := (4 : Int32)) hx hb dX4_read_117 (by decide) ?_
            refine lv_icmp_ne (tgt := 141) hx hb dX4_read_118 (by decide) (fun _ => ?_) (fun h => absurd h c_5)
            refine lv_aload_n hx hb dX4_read_141 rfl (lv_at hl 3 rfl) ?_
            refine lv_iconst (v := (5 : Int32)) hx hb dX4_read_142 (by decide) ?_
            refine lv_iload hx hb dX4_read_143 (lv_at hl 0 rfl) ?_
            refine go_i (rn_V (ci := 4) (q0 := 0) X (c_X4_trap l D q ca nW nB hk E (5 : Int32) ((f_X4_a nW nB E a1) + (f_X4_offsetI a1))) ok_X4_trap wd_249 ⟨by decide, by decide⟩ hP hD rfl rfl rfl hl.1 rfl (Nat.le_of_ble_eq_true rfl) dX4_read_145 ⟨Nat.zero_le _, Nat.zero_le _⟩) hP hD hS hA (fun H locs hP hD hS => ?_)
            exact rku_i (v := (f_X4_trap nW nB E (5 : Int32) ((f_X4_a nW nB E a1) + (f_X4_offsetI a1))).1) (F := (f_X4_read nW nB E a1)) (E1 := (f_X4_trap nW nB E (5 : Int32) ((f_X4_a nW nB E a1) + (f_X4_offsetI a1))).2) (by unfold f_X4_read; rw [if_neg c_1, if_pos c_2, if_pos c_3, if_pos c_4, if_neg c_5]; try rfl) X hP hD hS hAe hr hlk dX4_read_148
          ·
            refine lv_iload hx hb dX4_read_93 (lv_at hl 0 rfl) ?_
            refine go_i (rn_S X (c_X3_holds l D _ _ ((f_X4_a nW nB E a1) + (f_X4_offsetI a1))) ok_X3_holds wd_321 ⟨by decide, by decide⟩ hP hD rfl hl.1 rfl (Nat.le_of_ble_eq_true rfl) dX4_read_95 ⟨Nat.zero_le _, Nat.zero_le _⟩) hP hD hS hA (fun H locs hP hD hS => ?_)
            refine lv_if_eq (tgt := 116) hx hb dX4_read_98 (by decide) (fun c_7 => ?_) (fun c_7 => ?_)
            ·
              refine lv_iload_n hx hb dX4_read_116 rfl (lv_at hl 1 rfl) ?_
              refine lv_iconst (v := (4 : Int32)) hx hb dX4_read_117 (by decide) ?_
              refine lv_icmp_ne (tgt := 141) hx hb dX4_read_118 (by decide) (fun h => absurd c_5 h) (fun _ => ?_)
              refine lv_iload hx hb dX4_read_121 (lv_at hl 0 rfl) ?_
              refine lv_ldc (v := (268435456 : Int32)) hx hb X.1.2.2.2.1 (X.1.2.2.2.2 _ wd_338) dX4_read_123 ?_
              refine lv_icmp_ne (tgt := 141) hx hb dX4_read_125 (by decide) (fun c_9 => ?_) (fun c_9 => ?_)
              ·
                refine lv_aload_n hx hb dX4_read_141 rfl (lv_at hl 3 rfl) ?_
                refine lv_iconst (v := (5 : Int32)) hx hb dX4_read_142 (by decide) ?_
                refine lv_iload hx hb dX4_read_143 (lv_at hl 0 rfl) ?_
                refine go_i (rn_V (ci := 4) (q0 := 0) X (c_X4_trap l D q ca nW nB hk E (5 : Int32) ((f_X4_a nW nB E a1) + (f_X4_offsetI a1))) ok_X4_trap wd_249 ⟨by decide, by decide⟩ hP hD rfl rfl rfl hl.1 rfl (Nat.le_of_ble_eq_true rfl) dX4_read_145 ⟨Nat.zero_le _, Nat.zero_le _⟩) hP hD hS hA (fun H locs hP hD hS => ?_)
                exact rku_i (v := (f_X4_trap nW nB E (5 : Int32) ((f_X4_a nW nB E a1) + (f_X4_offsetI a1))).1) (F := (f_X4_read nW nB E a1)) (E1 := (f_X4_trap nW nB E (5 : Int32) ((f_X4_a nW nB E a1) + (f_X4_offsetI a1))).2) (by unfold f_X4_read; rw [if_neg c_1, if_pos c_2, if_pos c_3, if_pos c_4, if_pos c_5, if_pos c_7, if_neg c_9]; try rfl) X hP hD hS hAe hr hlk dX4_read_148
              ·
                refine lv_aload_n hx hb dX4_read_128 rfl (lv_at hl 3 rfl) ?_
                refine lv_iload_n hx hb dX4_read_129 rfl (lv_at hl 4 rfl) ?_
                refine lv_aload_n hx hb dX4_read_130 rfl (lv_at hl 3 rfl) ?_
                refine gf_X4_38 X hP dX4_read_131 ?_
                refine go_i (rn_V (ci := 2) (q0 := 4) X (c_X2_room l D q ca nW nB hk E ) ok_X2_room wd_339 ⟨by decide, by decide⟩ hP hD rfl rfl rfl hl.1 rfl (Nat.le_of_ble_eq_true rfl) dX4_read_134 ⟨Nat.zero_le _, Nat.zero_le _⟩) hP hD hS hA (fun H locs hP hD hS => ?_)
                refine go_i (rn_V (ci := 4) (q0 := 0) X (c_X4_retire l D q ca nW nB hk E a1 (f_X2_room nW nB E)) ok_X4_retire wd_253 ⟨by decide, by decide⟩ hP hD rfl rfl rfl hl.1 rfl (Nat.le_of_ble_eq_true rfl) dX4_read_137 ⟨Nat.zero_le _, Nat.zero_le _⟩) hP hD hS hA (fun H locs hP hD hS => ?_)
                exact rku_i (v := (f_X4_retire nW nB E a1 (f_X2_room nW nB E)).1) (F := (f_X4_read nW nB E a1)) (E1 := (f_X4_retire nW nB E a1 (f_X2_room nW nB E)).2) (by unfold f_X4_read; rw [if_neg c_1, if_pos c_2, if_pos c_3, if_pos c_4, if_pos c_5, if_pos c_7, if_pos c_9]; try rfl) X hP hD hS hAe hr hlk dX4_read_140
            ·
              refine lv_aload_n hx hb dX4_read_101 rfl (lv_at hl 3 rfl) ?_
              refine lv_iload_n hx hb dX4_read_102 rfl (lv_at hl 4 rfl) ?_
              refine lv_aload_n hx hb dX4_read_103 rfl (lv_at hl 3 rfl) ?_
              refine gf_X4_31 X hP dX4_read_104 ?_
              refine lv_iload hx hb dX4_read_107 (lv_at hl 0 rfl) ?_
              refine go_i (rn_V (ci := 3) (q0 := 3) X (c_X3_half l D q ca nW nB hk E ((f_X4_a nW nB E a1) + (f_X4_offsetI a1))) ok_X3_half wd_328 ⟨by decide, by decide⟩ hP hD rfl rfl rfl hl.1 rfl (Nat.le_of_ble_eq_true rfl) dX4_read_109 ⟨Nat.zero_le _, Nat.zero_le _⟩) hP hD hS hA (fun H locs hP hD hS => ?_)
              refine go_i (rn_V (ci := 4) (q0 := 0) X (c_X4_retire l D q ca nW nB hk E a1 (f_X3_half nW nB E ((f_X4_a nW nB E a1) + (f_X4_offsetI a1)))) ok_X4_retire wd_253 ⟨by decide, by decide⟩ hP hD rfl rfl rfl hl.1 rfl (Nat.le_of_ble_eq_true rfl) dX4_read_112 ⟨Nat.zero_le _, Nat.zero_le _⟩) hP hD hS hA (fun H locs hP hD hS => ?_)
              exact rku_i (v := (f_X4_retire nW nB E a1 (f_X3_half nW nB E ((f_X4_a nW nB E a1) + (f_X4_offsetI a1)))).1) (F := (f_X4_read nW nB E a1)) (E1 := (f_X4_retire nW nB E a1 (f_X3_half nW nB E ((f_X4_a nW nB E a1) + (f_X4_offsetI a1)))).2) (by unfold f_X4_read; rw [if_neg c_1, if_pos c_2, if_pos c_3, if_pos c_4, if_pos c_5, if_neg c_7]; try rfl) X hP hD hS hAe hr hlk dX4_read_115
        ·
          refine lv_aload_n hx hb dX4_read_68 rfl (lv_at hl 3 rfl) ?_
          refine lv_iload_n hx hb dX4_read_69 rfl (lv_at hl 4 rfl) ?_
          refine lv_iload_n hx hb dX4_read_70 rfl (lv_at hl 2 rfl) ?_
          refine lv_aload_n hx hb dX4_read_71 rfl (lv_at hl 3 rfl) ?_
          refine gf_X4_24 X hP dX4_read_72 ?_
          refine lv_iload hx hb dX4_read_75 (lv_at hl 0 rfl) ?_
          refine lv_iload_n hx hb dX4_read_77 rfl (lv_at hl 1 rfl) ?_
          refine go_i (rn_V (ci := 1) (q0 := 1) X (c_X1_get l D q ca nW nB hk E ((f_X4_a nW nB E a1) + (f_X4_offsetI a1)) ((1 : Int32) <<< (((f_X4_f a1) &&& (3 : Int32)) &&& 31)) (in_of_holds hk c_4)) ok_X1_get wd_209 ⟨by decide, by decide⟩ hP hD rfl rfl rfl hl.1 rfl (Nat.le_of_ble_eq_true rfl) dX4_read_78 ⟨Nat.zero_le _, Nat.zero_le _⟩) hP hD hS hA (fun H locs hP hD hS => ?_)
          refine go_i (rn_S X (c_X4_extended l D _ _ (f_X4_f a1) (f_X1_get nW nB E ((f_X4_a nW nB E a1) + (f_X4_offsetI a1)) ((1 : Int32) <<< (((f_X4_f a1) &&& (3 : Int32)) &&& 31)))) ok_X4_extended wd_318 ⟨by decide, by decide⟩ hP hD rfl hl.1 rfl (Nat.le_of_ble_eq_true rfl) dX4_read_81 ⟨Nat.zero_le _, Nat.zero_le _⟩) hP hD hS hA (fun H locs hP hD hS => ?_)
          refine go_i (rn_V (ci := 4) (q0 := 0) X (c_X4_retire l D q ca nW nB hk E a1 (f_X4_extended (f_X4_f a1) (f_X1_get nW nB E ((f_X4_a nW nB E a1) + (f_X4_offsetI a1)) ((1 : Int32) <<< (((f_X4_f a1) &&& (3 : Int32)) &&& 31))))) ok_X4_retire wd_253 ⟨by decide, by decide⟩ hP hD rfl rfl rfl hl.1 rfl (Nat.le_of_ble_eq_true rfl) dX4_read_84 ⟨Nat.zero_le _, Nat.zero_le _⟩) hP hD hS hA (fun H locs hP hD hS => ?_)
          exact rku_i (v := (f_X4_retire nW nB E a1 (f_X4_extended (f_X4_f a1) (f_X1_get nW nB E ((f_X4_a nW nB E a1) + (f_X4_offsetI a1)) ((1 : Int32) <<< (((f_X4_f a1) &&& (3 : Int32)) &&& 31))))).1) (F := (f_X4_read nW nB E a1)) (E1 := (f_X4_retire nW nB E a1 (f_X4_extended (f_X4_f a1) (f_X1_get nW nB E ((f_X4_a nW nB E a1) + (f_X4_offsetI a1)) ((1 : Int32) <<< (((f_X4_f a1) &&& (3 : Int32)) &&& 31))))).2) (by unfold f_X4_read; rw [if_neg c_1, if_pos c_2, if_pos c_3, if_neg c_4]; try rfl) X hP hD hS hAe hr hlk dX4_read_87
      ·
        refine lv_aload_n hx hb dX4_read_48 rfl (lv_at hl 3 rfl) ?_
        refine lv_iconst (v := (4 : Int32)) hx hb dX4_read_49 (by decide) ?_
        refine lv_iload hx hb dX4_read_50 (lv_at hl 0 rfl) ?_
        refine go_i (rn_V (ci := 4) (q0 := 0) X (c_X4_trap l D q ca nW nB hk E (4 : Int32) ((f_X4_a nW nB E a1) + (f_X4_offsetI a1))) ok_X4_trap wd_249 ⟨by decide, by decide⟩ hP hD rfl rfl rfl hl.1 rfl (Nat.le_of_ble_eq_true rfl) dX4_read_52 ⟨Nat.zero_le _, Nat.zero_le _⟩) hP hD hS hA (fun H locs hP hD hS => ?_)
        exact rku_i (v := (f_X4_trap nW nB E (4 : Int32) ((f_X4_a nW nB E a1) + (f_X4_offsetI a1))).1) (F := (f_X4_read nW nB E a1)) (E1 := (f_X4_trap nW nB E (4 : Int32) ((f_X4_a nW nB E a1) + (f_X4_offsetI a1))).2) (by unfold f_X4_read; rw [if_neg c_1, if_pos c_2, if_neg c_3]; try rfl) X hP hD hS hAe hr hlk dX4_read_55
    ·
      refine lv_aload_n hx hb dX4_read_15 rfl (lv_at hl 1 rfl) ?_
      refine lv_iload_n hx hb dX4_read_16 rfl (lv_at hl 2 rfl) ?_
      refine go_i (rn_V (ci := 4) (q0 := 0) X (c_X4_illegal l D q ca nW nB hk E a1) ok_X4_illegal wd_286 ⟨by decide, by decide⟩ hP hD rfl rfl rfl hl.1 rfl (Nat.le_of_ble_eq_true rfl) dX4_read_17 ⟨Nat.zero_le _, Nat.zero_le _⟩) hP hD hS hA (fun H locs hP hD hS => ?_)
      exact rku_i (v := (f_X4_illegal nW nB E a1).1) (F := (f_X4_read nW nB E a1)) (E1 := (f_X4_illegal nW nB E a1).2) (by unfold f_X4_read; rw [if_neg c_1, if_neg c_2]; try rfl) X hP hD hS hAe hr hlk dX4_read_20
set_option maxHeartbeats 4000000 in
set_option maxRecDepth 100000 in
theorem c_X4_g (l : Launch) (D : va_G) (tys : List (ClassId × FieldType)) (ws : va_W) (a1 : Int32) : Mt l yX4_g cX4_g 1 (some .int) 0 D tys [.int a1] ws (QcI D ws ws (f_X4_g a1)) := by
  refine ent (own := RX4) rfl (by decide) (Nat.le_of_ble_eq_true rfl) ?_
  intro p e s m below meth c A ls X hr hlk hmn hAe hA hP hD hS hl
  have hx := X.1.1
  have hb := X.1.2.1
  have hl : lv_has ls 1 [(0, .int a1)] := hl
  refine lv_iload_n hx hb dX4_g_0 rfl (lv_at hl 0 rfl) ?_
  refine lv_bipush (v := (25 : Int32)) hx hb dX4_g_1 (by decide) ?_
  refine lv_iushr (v := (jushr a1 (25 : Int32))) hx hb dX4_g_3 rfl ?_
  exact rg_i (v := (jushr a1 (25 : Int32))) (F := (f_X4_g a1)) rfl X hP hD hS hAe hr hlk dX4_g_4
set_option maxHeartbeats 4000000 in
set_option maxRecDepth 100000 in
theorem c_X4_reckoned (l : Launch) (D : va_G) (tys : List (ClassId × FieldType)) (ws : va_W) (a1 : Int32) (a2 : Bool) (a3 : Int32) (a4 : Int32) : Mt l yX4_reckoned cX4_reckoned 4 (some .int) 3 D tys [.int a1, .int (b2i a2), .int a3, .int a4] ws (QcI D ws ws (f_X4_reckoned a1 a2 a3 a4)) := by
  refine ent (own := RX4) rfl (by decide) (Nat.le_of_ble_eq_true rfl) ?_
  intro p e s m below meth c A ls X hr hlk hmn hAe hA hP hD hS hl
  have hx := X.1.1
  have hb := X.1.2.1
  have hl : lv_has ls 4 [(0, .int a1), (1, .int (b2i a2)), (2, .int a3), (3, .int a4)] := hl
  refine lv_iload_n hx hb dX4_reckoned_0 rfl (lv_at hl 0 rfl) ?_
  by_cases c_1 : a1 = (0 : Int32)
  ·
    refine lv_tableIn (off := 43) (tgt := 44) hx hb dX4_reckoned_1 (by rw [c_1]; decide) (by rw [c_1]; decide) (by rw [c_1]; decide) (by decide) ?_
    refine lv_iload_n hx hb dX4_reckoned_44 rfl (lv_at hl 1 rfl) ?_
    refine lv_if_eq (tgt := 54) hx hb dX4_reckoned_45 (by decide) (fun c_2 => ?_) (fun c_2 => ?_)
    ·
      refine lv_iload_n hx hb dX4_reckoned_54 rfl (lv_at hl 2 rfl) ?_
      refine lv_iload_n hx hb dX4_reckoned_55 rfl (lv_at hl 3 rfl) ?_
      refine lv_iadd hx hb dX4_reckoned_56 ?_
      exact rg_i (v := (a3 + a4)) (F := (f_X4_reckoned a1 a2 a3 a4)) (by unfold f_X4_reckoned; rw [if_pos c_1, if_pos c_2]; try rfl) X hP hD hS hAe hr hlk dX4_reckoned_57
    ·
      refine lv_iload_n hx hb dX4_reckoned_48 rfl (lv_at hl 2 rfl) ?_
      refine lv_iload_n hx hb dX4_reckoned_49 rfl (lv_at hl 3 rfl) ?_
      refine lv_isub hx hb dX4_reckoned_50 ?_
      refine lv_goto (tgt := 57) hx hb dX4_reckoned_51 (by decide) ?_
      exact rg_i (v := (a3 - a4)) (F := (f_X4_reckoned a1 a2 a3 a4)) (by unfold f_X4_reckoned; rw [if_pos c_1, if_neg c_2]; try rfl) X hP hD hS hAe hr hlk dX4_reckoned_57
  by_cases c_3 : a1 = (1 : Int32)
  ·
    refine lv_tableIn (off := 57) (tgt := 58) hx hb dX4_reckoned_1 (by rw [c_3]; decide) (by rw [c_3]; decide) (by rw [c_3]; decide) (by decide) ?_
    refine lv_iload_n hx hb dX4_reckoned_58 rfl (lv_at hl 2 rfl) ?_
    refine lv_iload_n hx hb dX4_reckoned_59 rfl (lv_at hl 3 rfl) ?_
    refine lv_bipush (v := (31 : Int32)) hx hb dX4_reckoned_60 (by decide) ?_
    refine lv_iand hx hb dX4_reckoned_62 ?_
    refine lv_ishl hx hb dX4_reckoned_63 ?_
    exact rg_i (v := (a3 <<< ((a4 &&& (31 : Int32)) &&& 31))) (F := (f_X4_reckoned a1 a2 a3 a4)) (by unfold f_X4_reckoned; rw [if_neg c_1, if_pos c_3]; try rfl) X hP hD hS hAe hr hlk dX4_reckoned_64
  by_cases c_4 : a1 = (2 : Int32)
  ·
    refine lv_tableIn (off := 64) (tgt := 65) hx hb dX4_reckoned_1 (by rw [c_4]; decide) (by rw [c_4]; decide) (by rw [c_4]; decide) (by decide) ?_
    refine lv_iload_n hx hb dX4_reckoned_65 rfl (lv_at hl 2 rfl) ?_
    refine lv_iload_n hx hb dX4_reckoned_66 rfl (lv_at hl 3 rfl) ?_
    refine lv_icmp_ge (tgt := 74) hx hb dX4_reckoned_67 (by decide) (fun c_5 => ?_) (fun c_5 => ?_)
    ·
      refine lv_iconst (v := (0 : Int32)) hx hb dX4_reckoned_74 (by decide) ?_
      exact rg_i (v := (0 : Int32)) (F := (f_X4_reckoned a1 a2 a3 a4)) (by unfold f_X4_reckoned; rw [if_neg c_1, if_neg c_3, if_pos c_4, if_pos c_5]; try rfl) X hP hD hS hAe hr hlk dX4_reckoned_75
    ·
      refine lv_iconst (v := (1 : Int32)) hx hb dX4_reckoned_70 (by decide) ?_
      refine lv_goto (tgt := 75) hx hb dX4_reckoned_71 (by decide) ?_
      exact rg_i (v := (1 : Int32)) (F := (f_X4_reckoned a1 a2 a3 a4)) (by unfold f_X4_reckoned; rw [if_neg c_1, if_neg c_3, if_pos c_4, if_neg c_5]; try rfl) X hP hD hS hAe hr hlk dX4_reckoned_75
  by_cases c_6 : a1 = (3 : Int32)
  ·
    refine lv_tableIn (off := 75) (tgt := 76) hx hb dX4_reckoned_1 (by rw [c_6]; decide) (by rw [c_6]; decide) (by rw [c_6]; decide) (by decide) ?_
    refine lv_iload_n hx hb dX4_reckoned_76 rfl (lv_at hl 2 rfl) ?_
    refine lv_iload_n hx hb dX4_reckoned_77 rfl (lv_at hl 3 rfl) ?_
    refine go_i (rn_S X (c_X4_belowUnsigned l D _ _ a3 a4) ok_X4_belowUnsigned wd_301 ⟨by decide, by decide⟩ hP hD rfl hl.1 rfl (Nat.le_of_ble_eq_true rfl) dX4_reckoned_78 ⟨Nat.zero_le _, Nat.zero_le _⟩) hP hD hS hA (fun H locs hP hD hS => ?_)
    refine lv_if_eq (tgt := 88) hx hb dX4_reckoned_81 (by decide) (fun c_7 => ?_) (fun c_7 => ?_)
    ·
      refine lv_iconst (v := (0 : Int32)) hx hb dX4_reckoned_88 (by decide) ?_
      exact rg_i (v := (0 : Int32)) (F := (f_X4_reckoned a1 a2 a3 a4)) (by unfold f_X4_reckoned; rw [if_neg c_1, if_neg c_3, if_neg c_4, if_pos c_6, if_pos c_7]; try rfl) X hP hD hS hAe hr hlk dX4_reckoned_89
    ·
      refine lv_iconst (v := (1 : Int32)) hx hb dX4_reckoned_84 (by decide) ?_
      refine lv_goto (tgt := 89) hx hb dX4_reckoned_85 (by decide) ?_
      exact rg_i (v := (1 : Int32)) (F := (f_X4_reckoned a1 a2 a3 a4)) (by unfold f_X4_reckoned; rw [if_neg c_1, if_neg c_3, if_neg c_4, if_pos c_6, if_neg c_7]; try rfl) X hP hD hS hAe hr hlk dX4_reckoned_89
  by_cases c_8 : a1 = (4 : Int32)
  ·
    refine lv_tableIn (off := 89) (tgt := 90) hx hb dX4_reckoned_1 (by rw [c_8]; decide) (by rw [c_8]; decide) (by rw [c_8]; decide) (by decide) ?_
    refine lv_iload_n hx hb dX4_reckoned_90 rfl (lv_at hl 2 rfl) ?_
    refine lv_iload_n hx hb dX4_reckoned_91 rfl (lv_at hl 3 rfl) ?_
    refine lv_ixor hx hb dX4_reckoned_92 ?_
    exact rg_i (v := (a3 ^^^ a4)) (F := (f_X4_reckoned a1 a2 a3 a4)) (by unfold f_X4_reckoned; rw [if_neg c_1, if_neg c_3, if_neg c_4, if_neg c_6, if_pos c_8]; try rfl) X hP hD hS hAe hr hlk dX4_reckoned_93
  by_cases c_9 : a1 = (5 : Int32)
  ·
    refine lv_tableIn (off := 93) (tgt := 94) hx hb dX4_reckoned_1 (by rw [c_9]; decide) (by rw [c_9]; decide) (by rw [c_9]; decide) (by decide) ?_
    refine lv_iload_n hx hb dX4_reckoned_94 rfl (lv_at hl 1 rfl) ?_
    refine lv_if_eq (tgt := 107) hx hb dX4_reckoned_95 (by decide) (fun c_10 => ?_) (fun c_10 => ?_)
    ·
      refine lv_iload_n hx hb dX4_reckoned_107 rfl (lv_at hl 2 rfl) ?_
      refine lv_iload_n hx hb dX4_reckoned_108 rfl (lv_at hl 3 rfl) ?_
      refine lv_bipush (v := (31 : Int32)) hx hb dX4_reckoned_109 (by decide) ?_
      refine lv_iand hx hb dX4_reckoned_111 ?_
      refine lv_iushr (v := (jushr a3 (a4 &&& (31 : Int32)))) hx hb dX4_reckoned_112 rfl ?_
      exact rg_i (v := (jushr a3 (a4 &&& (31 : Int32)))) (F := (f_X4_reckoned a1 a2 a3 a4)) (by unfold f_X4_reckoned; rw [if_neg c_1, if_neg c_3, if_neg c_4, if_neg c_6, if_neg c_8, if_pos c_9, if_pos c_10]; try rfl) X hP hD hS hAe hr hlk dX4_reckoned_113
    ·
      refine lv_iload_n hx hb dX4_reckoned_98 rfl (lv_at hl 2 rfl) ?_
      refine lv_iload_n hx hb dX4_reckoned_99 rfl (lv_at hl 3 rfl) ?_
      refine lv_bipush (v := (31 : Int32)) hx hb dX4_reckoned_100 (by decide) ?_
      refine lv_iand hx hb dX4_reckoned_102 ?_
      refine lv_ishr hx hb dX4_reckoned_103 ?_
      refine lv_goto (tgt := 113) hx hb dX4_reckoned_104 (by decide) ?_
      exact rg_i (v := (a3 >>> ((a4 &&& (31 : Int32)) &&& 31))) (F := (f_X4_reckoned a1 a2 a3 a4)) (by unfold f_X4_reckoned; rw [if_neg c_1, if_neg c_3, if_neg c_4, if_neg c_6, if_neg c_8, if_pos c_9, if_neg c_10]; try rfl) X hP hD hS hAe hr hlk dX4_reckoned_113
  by_cases c_11 : a1 = (6 : Int32)
  ·
    refine lv_tableIn (off := 113) (tgt := 114) hx hb dX4_reckoned_1 (by rw [c_11]; decide) (by rw [c_11]; decide) (by rw [c_11]; decide) (by decide) ?_
    refine lv_iload_n hx hb dX4_reckoned_114 rfl (lv_at hl 2 rfl) ?_
    refine lv_iload_n hx hb dX4_reckoned_115 rfl (lv_at hl 3 rfl) ?_
    refine lv_ior hx hb dX4_reckoned_116 ?_
    exact rg_i (v := (a3 ||| a4)) (F := (f_X4_reckoned a1 a2 a3 a4)) (by unfold f_X4_reckoned; rw [if_neg c_1, if_neg c_3, if_neg c_4, if_neg c_6, if_neg c_8, if_neg c_9, if_pos c_11]; try rfl) X hP hD hS hAe hr hlk dX4_reckoned_117
  refine lv_tableOut (tgt := 118) hx hb dX4_reckoned_1 (by have := lv_neT (a := 0) c_1 (by decide); have := lv_neT (a := 1) c_3 (by decide); have := lv_neT (a := 2) c_4 (by decide); have := lv_neT (a := 3) c_6 (by decide); have := lv_neT (a := 4) c_8 (by decide); have := lv_neT (a := 5) c_9 (by decide); have := lv_neT (a := 6) c_11 (by decide); omega) (by decide) ?_
  refine lv_iload_n hx hb dX4_reckoned_118 rfl (lv_at hl 2 rfl) ?_
  refine lv_iload_n hx hb dX4_reckoned_119 rfl (lv_at hl 3 rfl) ?_
  refine lv_iand hx hb dX4_reckoned_120 ?_
  exact rg_i (v := (a3 &&& a4)) (F := (f_X4_reckoned a1 a2 a3 a4)) (by unfold f_X4_reckoned; rw [if_neg c_1, if_neg c_3, if_neg c_4, if_neg c_6, if_neg c_8, if_neg c_9, if_neg c_11]; try rfl) X hP hD hS hAe hr hlk dX4_reckoned_121
set_option maxHeartbeats 4000000 in
set_option maxRecDepth 100000 in
theorem c_X4_reckonWithNumber (l : Launch) (D : va_G) (q : Nat → Nat) (ca : Nat → ClassId) (nW nB : Nat) (hk : KOk nW nB) (E : KS) (a1 : Int32) : Mt l yX4_reckonWithNumber cX4_reckonWithNumber 5 (some .int) 4 D (tysK ca) [.ref (q 0), .int a1] (cwK q ca nW nB E) (QcI D (cwK q ca nW nB E) (cwK q ca nW nB (f_X4_reckonWithNumber nW nB E a1).2) (f_X4_reckonWithNumber nW nB E a1).1) := by
  refine ent (own := RX4) rfl (by decide) (Nat.le_of_ble_eq_true rfl) ?_
  intro p e s m below meth c A ls X hr hlk hmn hAe hA hP hD hS hl
  have hx := X.1.1
  have hb := X.1.2.1
  have hl : lv_has ls 5 [(0, .ref (q 0)), (1, .int a1)] := hl
  refine lv_iload_n hx hb dX4_reckonWithNumber_0 rfl (lv_at hl 1 rfl) ?_
  refine go_i (rn_S X (c_X4_f l D _ _ a1) ok_X4_f wd_273 ⟨by decide, by decide⟩ hP hD rfl hl.1 rfl (Nat.le_of_ble_eq_true rfl) dX4_reckonWithNumber_1 ⟨Nat.zero_le _, Nat.zero_le _⟩) hP hD hS hA (fun H locs hP hD hS => ?_)
  refine lv_istore_n (lv' := [(2, .int (f_X4_f a1)), (0, .ref (q 0)), (1, .int a1)]) hx hb dX4_reckonWithNumber_4 rfl hl (by decide) rfl (fun ls hl => ?_)
  refine lv_iload_n hx hb dX4_reckonWithNumber_5 rfl (lv_at hl 2 rfl) ?_
  refine go_i (rn_S X (c_X4_g l D _ _ a1) ok_X4_g wd_371 ⟨by decide, by decide⟩ hP hD rfl hl.1 rfl (Nat.le_of_ble_eq_true rfl) dX4_reckonWithNumber_6 ⟨Nat.zero_le _, Nat.zero_le _⟩) hP hD hS hA (fun H locs hP hD hS => ?_)
  refine lv_istore_n (lv' := [(3, .int (f_X4_g a1)), (2, .int (f_X4_f a1)), (0, .ref (q 0)), (1, .int a1)]) hx hb dX4_reckonWithNumber_9 rfl hl (by decide) rfl (fun ls hl => ?_)
  refine lv_iload_n hx hb dX4_reckonWithNumber_10 rfl (lv_at hl 1 rfl) ?_
  refine lv_iconst (v := (1 : Int32)) hx hb dX4_reckonWithNumber_11 (by decide) ?_
  refine lv_icmp_ne (tgt := 27) hx hb dX4_reckonWithNumber_12 (by decide) (fun c_1 => ?_) (fun c_1 => ?_)
  ·
    refine lv_iload_n hx hb dX4_reckonWithNumber_27 rfl (lv_at hl 1 rfl) ?_
    refine lv_iconst (v := (5 : Int32)) hx hb dX4_reckonWithNumber_28 (by decide) ?_
    refine lv_icmp_ne (tgt := 42) hx hb dX4_reckonWithNumber_29 (by decide) (fun c_2 => ?_) (fun c_2 => ?_)
    ·
      refine lv_iconst (v := (1 : Int32)) hx hb dX4_reckonWithNumber_42 (by decide) ?_
      refine lv_goto (tgt := 47) hx hb dX4_reckonWithNumber_43 (by decide) ?_
      refine lv_istore (lv' := [(4, .int (1 : Int32)), (3, .int (f_X4_g a1)), (2, .int (f_X4_f a1)), (0, .ref (q 0)), (1, .int a1)]) hx hb dX4_reckonWithNumber_47 hl (by decide) rfl (fun ls hl => ?_)
      refine lv_iload hx hb dX4_reckonWithNumber_49 (lv_at hl 0 rfl) ?_
      refine lv_if_ne (tgt := 60) hx hb dX4_reckonWithNumber_51 (by decide) (fun _ => ?_) (fun h => absurd h (by decide))
      refine lv_aload_n hx hb dX4_reckonWithNumber_60 rfl (lv_at hl 3 rfl) ?_
      refine lv_iload_n hx hb dX4_reckonWithNumber_61 rfl (lv_at hl 4 rfl) ?_
      refine lv_iload_n hx hb dX4_reckonWithNumber_62 rfl (lv_at hl 2 rfl) ?_
      refine lv_iload_n hx hb dX4_reckonWithNumber_63 rfl (lv_at hl 2 rfl) ?_
      refine lv_iconst (v := (5 : Int32)) hx hb dX4_reckonWithNumber_64 (by decide) ?_
      refine lv_icmp_ne (tgt := 78) hx hb dX4_reckonWithNumber_65 (by decide) (fun _ => ?_) (fun h => absurd h c_2)
      refine lv_iconst (v := (0 : Int32)) hx hb dX4_reckonWithNumber_78 (by decide) ?_
      refine lv_aload_n hx hb dX4_reckonWithNumber_79 rfl (lv_at hl 3 rfl) ?_
      refine lv_iload_n hx hb dX4_reckonWithNumber_80 rfl (lv_at hl 4 rfl) ?_
      refine go_i (rn_V (ci := 4) (q0 := 0) X (c_X4_a l D q ca nW nB hk E a1) ok_X4_a wd_276 ⟨by decide, by decide⟩ hP hD rfl rfl rfl hl.1 rfl (Nat.le_of_ble_eq_true rfl) dX4_reckonWithNumber_81 ⟨Nat.zero_le _, Nat.zero_le _⟩) hP hD hS hA (fun H locs hP hD hS => ?_)
      refine lv_iload_n hx hb dX4_reckonWithNumber_84 rfl (lv_at hl 4 rfl) ?_
      refine go_i (rn_S X (c_X4_offsetI l D _ _ a1) ok_X4_offsetI wd_283 ⟨by decide, by decide⟩ hP hD rfl hl.1 rfl (Nat.le_of_ble_eq_true rfl) dX4_reckonWithNumber_85 ⟨Nat.zero_le _, Nat.zero_le _⟩) hP hD hS hA (fun H locs hP hD hS => ?_)
      refine go_i (rn_S X (c_X4_reckoned l D _ _ (f_X4_f a1) false (f_X4_a nW nB E a1) (f_X4_offsetI a1)) ok_X4_reckoned wd_374 ⟨by decide, by decide⟩ hP hD rfl hl.1 rfl (Nat.le_of_ble_eq_true rfl) dX4_reckonWithNumber_88 ⟨Nat.zero_le _, Nat.zero_le _⟩) hP hD hS hA (fun H locs hP hD hS => ?_)
      refine go_i (rn_V (ci := 4) (q0 := 0) X (c_X4_retire l D q ca nW nB hk E a1 (f_X4_reckoned (f_X4_f a1) false (f_X4_a nW nB E a1) (f_X4_offsetI a1))) ok_X4_retire wd_253 ⟨by decide, by decide⟩ hP hD rfl rfl rfl hl.1 rfl (Nat.le_of_ble_eq_true rfl) dX4_reckonWithNumber_91 ⟨Nat.zero_le _, Nat.zero_le _⟩) hP hD hS hA (fun H locs hP hD hS => ?_)
      exact rku_i (v := (f_X4_retire nW nB E a1 (f_X4_reckoned (f_X4_f a1) false (f_X4_a nW nB E a1) (f_X4_offsetI a1))).1) (F := (f_X4_reckonWithNumber nW nB E a1)) (E1 := (f_X4_retire nW nB E a1 (f_X4_reckoned (f_X4_f a1) false (f_X4_a nW nB E a1) (f_X4_offsetI a1))).2) (by unfold f_X4_reckonWithNumber; rw [if_neg c_1, if_neg c_2]; try rfl) X hP hD hS hAe hr hlk dX4_reckonWithNumber_94
    ·
      refine lv_iload_n hx hb dX4_reckonWithNumber_32 rfl (lv_at hl 0 rfl) ?_
      refine lv_if_eq (tgt := 42) hx hb dX4_reckonWithNumber_33 (by decide) (fun c_4 => ?_) (fun c_4 => ?_)
      ·
        refine lv_iconst (v := (1 : Int32)) hx hb dX4_reckonWithNumber_42 (by decide) ?_
        refine lv_goto (tgt := 47) hx hb dX4_reckonWithNumber_43 (by decide) ?_
        refine lv_istore (lv' := [(4, .int (1 : Int32)), (3, .int (f_X4_g a1)), (2, .int (f_X4_f a1)), (0, .ref (q 0)), (1, .int a1)]) hx hb dX4_reckonWithNumber_47 hl (by decide) rfl (fun ls hl => ?_)
        refine lv_iload hx hb dX4_reckonWithNumber_49 (lv_at hl 0 rfl) ?_
        refine lv_if_ne (tgt := 60) hx hb dX4_reckonWithNumber_51 (by decide) (fun _ => ?_) (fun h => absurd h (by decide))
        refine lv_aload_n hx hb dX4_reckonWithNumber_60 rfl (lv_at hl 3 rfl) ?_
        refine lv_iload_n hx hb dX4_reckonWithNumber_61 rfl (lv_at hl 4 rfl) ?_
        refine lv_iload_n hx hb dX4_reckonWithNumber_62 rfl (lv_at hl 2 rfl) ?_
        refine lv_iload_n hx hb dX4_reckonWithNumber_63 rfl (lv_at hl 2 rfl) ?_
        refine lv_iconst (v := (5 : Int32)) hx hb dX4_reckonWithNumber_64 (by decide) ?_
        refine lv_icmp_ne (tgt := 78) hx hb dX4_reckonWithNumber_65 (by decide) (fun h => absurd c_2 h) (fun _ => ?_)
        refine lv_iload_n hx hb dX4_reckonWithNumber_68 rfl (lv_at hl 1 rfl) ?_
        refine lv_bipush (v := (32 : Int32)) hx hb dX4_reckonWithNumber_69 (by decide) ?_
        refine lv_icmp_ne (tgt := 78) hx hb dX4_reckonWithNumber_71 (by decide) (fun c_6 => ?_) (fun c_6 => ?_)
        ·
          refine lv_iconst (v := (0 : Int32)) hx hb dX4_reckonWithNumber_78 (by decide) ?_
          refine lv_aload_n hx hb dX4_reckonWithNumber_79 rfl (lv_at hl 3 rfl) ?_
          refine lv_iload_n hx hb dX4_reckonWithNumber_80 rfl (lv_at hl 4 rfl) ?_
          refine go_i (rn_V (ci := 4) (q0 := 0) X (c_X4_a l D q ca nW nB hk E a1) ok_X4_a wd_276 ⟨by decide, by decide⟩ hP hD rfl rfl rfl hl.1 rfl (Nat.le_of_ble_eq_true rfl) dX4_reckonWithNumber_81 ⟨Nat.zero_le _, Nat.zero_le _⟩) hP hD hS hA (fun H locs hP hD hS => ?_)
          refine lv_iload_n hx hb dX4_reckonWithNumber_84 rfl (lv_at hl 4 rfl) ?_
          refine go_i (rn_S X (c_X4_offsetI l D _ _ a1) ok_X4_offsetI wd_283 ⟨by decide, by decide⟩ hP hD rfl hl.1 rfl (Nat.le_of_ble_eq_true rfl) dX4_reckonWithNumber_85 ⟨Nat.zero_le _, Nat.zero_le _⟩) hP hD hS hA (fun H locs hP hD hS => ?_)
          refine go_i (rn_S X (c_X4_reckoned l D _ _ (f_X4_f a1) false (f_X4_a nW nB E a1) (f_X4_offsetI a1)) ok_X4_reckoned wd_374 ⟨by decide, by decide⟩ hP hD rfl hl.1 rfl (Nat.le_of_ble_eq_true rfl) dX4_reckonWithNumber_88 ⟨Nat.zero_le _, Nat.zero_le _⟩) hP hD hS hA (fun H locs hP hD hS => ?_)
          refine go_i (rn_V (ci := 4) (q0 := 0) X (c_X4_retire l D q ca nW nB hk E a1 (f_X4_reckoned (f_X4_f a1) false (f_X4_a nW nB E a1) (f_X4_offsetI a1))) ok_X4_retire wd_253 ⟨by decide, by decide⟩ hP hD rfl rfl rfl hl.1 rfl (Nat.le_of_ble_eq_true rfl) dX4_reckonWithNumber_91 ⟨Nat.zero_le _, Nat.zero_le _⟩) hP hD hS hA (fun H locs hP hD hS => ?_)
          exact rku_i (v := (f_X4_retire nW nB E a1 (f_X4_reckoned (f_X4_f a1) false (f_X4_a nW nB E a1) (f_X4_offsetI a1))).1) (F := (f_X4_reckonWithNumber nW nB E a1)) (E1 := (f_X4_retire nW nB E a1 (f_X4_reckoned (f_X4_f a1) false (f_X4_a nW nB E a1) (f_X4_offsetI a1))).2) (by unfold f_X4_reckonWithNumber; rw [if_neg c_1, if_pos c_2, if_pos c_4, if_neg c_6]; try rfl) X hP hD hS hAe hr hlk dX4_reckonWithNumber_94
        ·
          refine lv_iconst (v := (1 : Int32)) hx hb dX4_reckonWithNumber_74 (by decide) ?_
          refine lv_goto (tgt := 79) hx hb dX4_reckonWithNumber_75 (by decide) ?_
          refine lv_aload_n hx hb dX4_reckonWithNumber_79 rfl (lv_at hl 3 rfl) ?_
          refine lv_iload_n hx hb dX4_reckonWithNumber_80 rfl (lv_at hl 4 rfl) ?_
          refine go_i (rn_V (ci := 4) (q0 := 0) X (c_X4_a l D q ca nW nB hk E a1) ok_X4_a wd_276 ⟨by decide, by decide⟩ hP hD rfl rfl rfl hl.1 rfl (Nat.le_of_ble_eq_true rfl) dX4_reckonWithNumber_81 ⟨Nat.zero_le _, Nat.zero_le _⟩) hP hD hS hA (fun H locs hP hD hS => ?_)
          refine lv_iload_n hx hb dX4_reckonWithNumber_84 rfl (lv_at hl 4 rfl) ?_
          refine go_i (rn_S X (c_X4_offsetI l D _ _ a1) ok_X4_offsetI wd_283 ⟨by decide, by decide⟩ hP hD rfl hl.1 rfl (Nat.le_of_ble_eq_true rfl) dX4_reckonWithNumber_85 ⟨Nat.zero_le _, Nat.zero_le _⟩) hP hD hS hA (fun H locs hP hD hS => ?_)
          refine go_i (rn_S X (c_X4_reckoned l D _ _ (f_X4_f a1) true (f_X4_a nW nB E a1) (f_X4_offsetI a1)) ok_X4_reckoned wd_374 ⟨by decide, by decide⟩ hP hD rfl hl.1 rfl (Nat.le_of_ble_eq_true rfl) dX4_reckonWithNumber_88 ⟨Nat.zero_le _, Nat.zero_le _⟩) hP hD hS hA (fun H locs hP hD hS => ?_)
          refine go_i (rn_V (ci := 4) (q0 := 0) X (c_X4_retire l D q ca nW nB hk E a1 (f_X4_reckoned (f_X4_f a1) true (f_X4_a nW nB E a1) (f_X4_offsetI a1))) ok_X4_retire wd_253 ⟨by decide, by decide⟩ hP hD rfl rfl rfl hl.1 rfl (Nat.le_of_ble_eq_true rfl) dX4_reckonWithNumber_91 ⟨Nat.zero_le _, Nat.zero_le _⟩) hP hD hS hA (fun H locs hP hD hS => ?_)
          exact rku_i (v := (f_X4_retire nW nB E a1 (f_X4_reckoned (f_X4_f a1) true (f_X4_a nW nB E a1) (f_X4_offsetI a1))).1) (F := (f_X4_reckonWithNumber nW nB E a1)) (E1 := (f_X4_retire nW nB E a1 (f_X4_reckoned (f_X4_f a1) true (f_X4_a nW nB E a1) (f_X4_offsetI a1))).2) (by unfold f_X4_reckonWithNumber; rw [if_neg c_1, if_pos c_2, if_pos c_4, if_pos c_6]; try rfl) X hP hD hS hAe hr hlk dX4_reckonWithNumber_94
      ·
        refine lv_iload_n hx hb dX4_reckonWithNumber_36 rfl (lv_at hl 0 rfl) ?_
        refine lv_bipush (v := (32 : Int32)) hx hb dX4_reckonWithNumber_37 (by decide) ?_
        refine lv_icmp_ne (tgt := 46) hx hb dX4_reckonWithNumber_39 (by decide) (fun c_7 => ?_) (fun c_7 => ?_)
        ·
          refine lv_iconst (v := (0 : Int32)) hx hb dX4_reckonWithNumber_46 (by decide) ?_
          refine lv_istore (lv' := [(4, .int (0 : Int32)), (3, .int (f_X4_g a1)), (2, .int (f_X4_f a1)), (0, .ref (q 0)), (1, .int a1)]) hx hb dX4_reckonWithNumber_47 hl (by decide) rfl (fun ls hl => ?_)
          refine lv_iload hx hb dX4_reckonWithNumber_49 (lv_at hl 0 rfl) ?_
          refine lv_if_ne (tgt := 60) hx hb dX4_reckonWithNumber_51 (by decide) (fun h => absurd (by decide) h) (fun _ => ?_)
          refine lv_aload_n hx hb dX4_reckonWithNumber_54 rfl (lv_at hl 3 rfl) ?_
          refine lv_iload_n hx hb dX4_reckonWithNumber_55 rfl (lv_at hl 4 rfl) ?_
          refine go_i (rn_V (ci := 4) (q0 := 0) X (c_X4_illegal l D q ca nW nB hk E a1) ok_X4_illegal wd_286 ⟨by decide, by decide⟩ hP hD rfl rfl rfl hl.1 rfl (Nat.le_of_ble_eq_true rfl) dX4_reckonWithNumber_56 ⟨Nat.zero_le _, Nat.zero_le _⟩) hP hD hS hA (fun H locs hP hD hS => ?_)
          exact rku_i (v := (f_X4_illegal nW nB E a1).1) (F := (f_X4_reckonWithNumber nW nB E a1)) (E1 := (f_X4_illegal nW nB E a1).2) (by unfold f_X4_reckonWithNumber; rw [if_neg c_1, if_pos c_2, if_neg c_4, if_neg c_7]; try rfl) X hP hD hS hAe hr hlk dX4_reckonWithNumber_59
        ·
          refine lv_iconst (v := (1 : Int32)) hx hb dX4_reckonWithNumber_42 (by decide) ?_
          refine lv_goto (tgt := 47) hx hb dX4_reckonWithNumber_43 (by decide) ?_
          refine lv_istore (lv' := [(4, .int (1 : Int32)), (3, .int (f_X4_g a1)), (2, .int (f_X4_f a1)), (0, .ref (q 0)), (1, .int a1)]) hx hb dX4_reckonWithNumber_47 hl (by decide) rfl (fun ls hl => ?_)
          refine lv_iload hx hb dX4_reckonWithNumber_49 (lv_at hl 0 rfl) ?_
          refine lv_if_ne (tgt := 60) hx hb dX4_reckonWithNumber_51 (by decide) (fun _ => ?_) (fun h => absurd h (by decide))
          refine lv_aload_n hx hb dX4_reckonWithNumber_60 rfl (lv_at hl 3 rfl) ?_
          refine lv_iload_n hx hb dX4_reckonWithNumber_61 rfl (lv_at hl 4 rfl) ?_
          refine lv_iload_n hx hb dX4_reckonWithNumber_62 rfl (lv_at hl 2 rfl) ?_
          refine lv_iload_n hx hb dX4_reckonWithNumber_63 rfl (lv_at hl 2 rfl) ?_
          refine lv_iconst (v := (5 : Int32)) hx hb dX4_reckonWithNumber_64 (by decide) ?_
          refine lv_icmp_ne (tgt := 78) hx hb dX4_reckonWithNumber_65 (by decide) (fun h => absurd c_2 h) (fun _ => ?_)
          refine lv_iload_n hx hb dX4_reckonWithNumber_68 rfl (lv_at hl 1 rfl) ?_
          refine lv_bipush (v := (32 : Int32)) hx hb dX4_reckonWithNumber_69 (by decide) ?_
          refine lv_icmp_ne (tgt := 78) hx hb dX4_reckonWithNumber_71 (by decide) (fun h => absurd c_7 h) (fun _ => ?_)
          refine lv_iconst (v := (1 : Int32)) hx hb dX4_reckonWithNumber_74 (by decide) ?_
          refine lv_goto (tgt := 79) hx hb dX4_reckonWithNumber_75 (by decide) ?_
          refine lv_aload_n hx hb dX4_reckonWithNumber_79 rfl (lv_at hl 3 rfl) ?_
          refine lv_iload_n hx hb dX4_reckonWithNumber_80 rfl (lv_at hl 4 rfl) ?_
          refine go_i (rn_V (ci := 4) (q0 := 0) X (c_X4_a l D q ca nW nB hk E a1) ok_X4_a wd_276 ⟨by decide, by decide⟩ hP hD rfl rfl rfl hl.1 rfl (Nat.le_of_ble_eq_true rfl) dX4_reckonWithNumber_81 ⟨Nat.zero_le _, Nat.zero_le _⟩) hP hD hS hA (fun H locs hP hD hS => ?_)
          refine lv_iload_n hx hb dX4_reckonWithNumber_84 rfl (lv_at hl 4 rfl) ?_
          refine go_i (rn_S X (c_X4_offsetI l D _ _ a1) ok_X4_offsetI wd_283 ⟨by decide, by decide⟩ hP hD rfl hl.1 rfl (Nat.le_of_ble_eq_true rfl) dX4_reckonWithNumber_85 ⟨Nat.zero_le _, Nat.zero_le _⟩) hP hD hS hA (fun H locs hP hD hS => ?_)
          refine go_i (rn_S X (c_X4_reckoned l D _ _ (f_X4_f a1) true (f_X4_a nW nB E a1) (f_X4_offsetI a1)) ok_X4_reckoned wd_374 ⟨by decide, by decide⟩ hP hD rfl hl.1 rfl (Nat.le_of_ble_eq_true rfl) dX4_reckonWithNumber_88 ⟨Nat.zero_le _, Nat.zero_le _⟩) hP hD hS hA (fun H locs hP hD hS => ?_)
          refine go_i (rn_V (ci := 4) (q0 := 0) X (c_X4_retire l D q ca nW nB hk E a1 (f_X4_reckoned (f_X4_f a1) true (f_X4_a nW nB E a1) (f_X4_offsetI a1))) ok_X4_retire wd_253 ⟨by decide, by decide⟩ hP hD rfl rfl rfl hl.1 rfl (Nat.le_of_ble_eq_true rfl) dX4_reckonWithNumber_91 ⟨Nat.zero_le _, Nat.zero_le _⟩) hP hD hS hA (fun H locs hP hD hS => ?_)
          exact rku_i (v := (f_X4_retire nW nB E a1 (f_X4_reckoned (f_X4_f a1) true (f_X4_a nW nB E a1) (f_X4_offsetI a1))).1) (F := (f_X4_reckonWithNumber nW nB E a1)) (E1 := (f_X4_retire nW nB E a1 (f_X4_reckoned (f_X4_f a1) true (f_X4_a nW nB E a1) (f_X4_offsetI a1))).2) (by unfold f_X4_reckonWithNumber; rw [if_neg c_1, if_pos c_2, if_neg c_4, if_pos c_7]; try rfl) X hP hD hS hAe hr hlk dX4_reckonWithNumber_94
  ·
    refine lv_iload_n hx hb dX4_reckonWithNumber_15 rfl (lv_at hl 0 rfl) ?_
    refine lv_if_ne (tgt := 23) hx hb dX4_reckonWithNumber_16 (by decide) (fun c_10 => ?_) (fun c_10 => ?_)
    ·
      refine lv_iconst (v := (0 : Int32)) hx hb dX4_reckonWithNumber_23 (by decide) ?_
      refine lv_goto (tgt := 47) hx hb dX4_reckonWithNumber_24 (by decide) ?_
      refine lv_istore (lv' := [(4, .int (0 : Int32)), (3, .int (f_X4_g a1)), (2, .int (f_X4_f a1)), (0, .ref (q 0)), (1, .int a1)]) hx hb dX4_reckonWithNumber_47 hl (by decide) rfl (fun ls hl => ?_)
      refine lv_iload hx hb dX4_reckonWithNumber_49 (lv_at hl 0 rfl) ?_
      refine lv_if_ne (tgt := 60) hx hb dX4_reckonWithNumber_51 (by decide) (fun h => absurd (by decide) h) (fun _ => ?_)
      refine lv_aload_n hx hb dX4_reckonWithNumber_54 rfl (lv_at hl 3 rfl) ?_
      refine lv_iload_n hx hb dX4_reckonWithNumber_55 rfl (lv_at hl 4 rfl) ?_
      refine go_i (rn_V (ci := 4) (q0 := 0) X (c_X4_illegal l D q ca nW nB hk E a1) ok_X4_illegal wd_286 ⟨by decide, by decide⟩ hP hD rfl rfl rfl hl.1 rfl (Nat.le_of_ble_eq_true rfl) dX4_reckonWithNumber_56 ⟨Nat.zero_le _, Nat.zero_le _⟩) hP hD hS hA (fun H locs hP hD hS => ?_)
      exact rku_i (v := (f_X4_illegal nW nB E a1).1) (F := (f_X4_reckonWithNumber nW nB E a1)) (E1 := (f_X4_illegal nW nB E a1).2) (by unfold f_X4_reckonWithNumber; rw [if_pos c_1, if_neg c_10]; try rfl) X hP hD hS hAe hr hlk dX4_reckonWithNumber_59
    ·
      refine lv_iconst (v := (1 : Int32)) hx hb dX4_reckonWithNumber_19 (by decide) ?_
      refine lv_goto (tgt := 47) hx hb dX4_reckonWithNumber_20 (by decide) ?_
      refine lv_istore (lv' := [(4, .int (1 : Int32)), (3, .int (f_X4_g a1)), (2, .int (f_X4_f a1)), (0, .ref (q 0)), (1, .int a1)]) hx hb dX4_reckonWithNumber_47 hl (by decide) rfl (fun ls hl => ?_)
      refine lv_iload hx hb dX4_reckonWithNumber_49 (lv_at hl 0 rfl) ?_
      refine lv_if_ne (tgt := 60) hx hb dX4_reckonWithNumber_51 (by decide) (fun _ => ?_) (fun h => absurd h (by decide))
      refine lv_aload_n hx hb dX4_reckonWithNumber_60 rfl (lv_at hl 3 rfl) ?_
      refine lv_iload_n hx hb dX4_reckonWithNumber_61 rfl (lv_at hl 4 rfl) ?_
      refine lv_iload_n hx hb dX4_reckonWithNumber_62 rfl (lv_at hl 2 rfl) ?_
      refine lv_iload_n hx hb dX4_reckonWithNumber_63 rfl (lv_at hl 2 rfl) ?_
      refine lv_iconst (v := (5 : Int32)) hx hb dX4_reckonWithNumber_64 (by decide) ?_
      refine lv_icmp_ne (tgt := 78) hx hb dX4_reckonWithNumber_65 (by decide) (fun c_11 => ?_) (fun c_11 => ?_)
      ·
        refine lv_iconst (v := (0 : Int32)) hx hb dX4_reckonWithNumber_78 (by decide) ?_
        refine lv_aload_n hx hb dX4_reckonWithNumber_79 rfl (lv_at hl 3 rfl) ?_
        refine lv_iload_n hx hb dX4_reckonWithNumber_80 rfl (lv_at hl 4 rfl) ?_
        refine go_i (rn_V (ci := 4) (q0 := 0) X (c_X4_a l D q ca nW nB hk E a1) ok_X4_a wd_276 ⟨by decide, by decide⟩ hP hD rfl rfl rfl hl.1 rfl (Nat.le_of_ble_eq_true rfl) dX4_reckonWithNumber_81 ⟨Nat.zero_le _, Nat.zero_le _⟩) hP hD hS hA (fun H locs hP hD hS => ?_)
        refine lv_iload_n hx hb dX4_reckonWithNumber_84 rfl (lv_at hl 4 rfl) ?_
        refine go_i (rn_S X (c_X4_offsetI l D _ _ a1) ok_X4_offsetI wd_283 ⟨by decide, by decide⟩ hP hD rfl hl.1 rfl (Nat.le_of_ble_eq_true rfl) dX4_reckonWithNumber_85 ⟨Nat.zero_le _, Nat.zero_le _⟩) hP hD hS hA (fun H locs hP hD hS => ?_)
        refine go_i (rn_S X (c_X4_reckoned l D _ _ (f_X4_f a1) false (f_X4_a nW nB E a1) (f_X4_offsetI a1)) ok_X4_reckoned wd_374 ⟨by decide, by decide⟩ hP hD rfl hl.1 rfl (Nat.le_of_ble_eq_true rfl) dX4_reckonWithNumber_88 ⟨Nat.zero_le _, Nat.zero_le _⟩) hP hD hS hA (fun H locs hP hD hS => ?_)
        refine go_i (rn_V (ci := 4) (q0 := 0) X (c_X4_retire l D q ca nW nB hk E a1 (f_X4_reckoned (f_X4_f a1) false (f_X4_a nW nB E a1) (f_X4_offsetI a1))) ok_X4_retire wd_253 ⟨by decide, by decide⟩ hP hD rfl rfl rfl hl.1 rfl (Nat.le_of_ble_eq_true rfl) dX4_reckonWithNumber_91 ⟨Nat.zero_le _, Nat.zero_le _⟩) hP hD hS hA (fun H locs hP hD hS => ?_)
        exact rku_i (v := (f_X4_retire nW nB E a1 (f_X4_reckoned (f_X4_f a1) false (f_X4_a nW nB E a1) (f_X4_offsetI a1))).1) (F := (f_X4_reckonWithNumber nW nB E a1)) (E1 := (f_X4_retire nW nB E a1 (f_X4_reckoned (f_X4_f a1) false (f_X4_a nW nB E a1) (f_X4_offsetI a1))).2) (by unfold f_X4_reckonWithNumber; rw [if_pos c_1, if_pos c_10, if_neg c_11]; try rfl) X hP hD hS hAe hr hlk dX4_reckonWithNumber_94
      ·
        refine lv_iload_n hx hb dX4_reckonWithNumber_68 rfl (lv_at hl 1 rfl) ?_
        refine lv_bipush (v := (32 : Int32)) hx hb dX4_reckonWithNumber_69 (by decide) ?_
        refine lv_icmp_ne (tgt := 78) hx hb dX4_reckonWithNumber_71 (by decide) (fun c_12 => ?_) (fun c_12 => ?_)
        ·
          refine lv_iconst (v := (0 : Int32)) hx hb dX4_reckonWithNumber_78 (by decide) ?_
          refine lv_aload_n hx hb dX4_reckonWithNumber_79 rfl (lv_at hl 3 rfl) ?_
          refine lv_iload_n hx hb dX4_reckonWithNumber_80 rfl (lv_at hl 4 rfl) ?_
          refine go_i (rn_V (ci := 4) (q0 := 0) X (c_X4_a l D q ca nW nB hk E a1) ok_X4_a wd_276 ⟨by decide, by decide⟩ hP hD rfl rfl rfl hl.1 rfl (Nat.le_of_ble_eq_true rfl) dX4_reckonWithNumber_81 ⟨Nat.zero_le _, Nat.zero_le _⟩) hP hD hS hA (fun H locs hP hD hS => ?_)
          refine lv_iload_n hx hb dX4_reckonWithNumber_84 rfl (lv_at hl 4 rfl) ?_
          refine go_i (rn_S X (c_X4_offsetI l D _ _ a1) ok_X4_offsetI wd_283 ⟨by decide, by decide⟩ hP hD rfl hl.1 rfl (Nat.le_of_ble_eq_true rfl) dX4_reckonWithNumber_85 ⟨Nat.zero_le _, Nat.zero_le _⟩) hP hD hS hA (fun H locs hP hD hS => ?_)
          refine go_i (rn_S X (c_X4_reckoned l D _ _ (f_X4_f a1) false (f_X4_a nW nB E a1) (f_X4_offsetI a1)) ok_X4_reckoned wd_374 ⟨by decide, by decide⟩ hP hD rfl hl.1 rfl (Nat.le_of_ble_eq_true rfl) dX4_reckonWithNumber_88 ⟨Nat.zero_le _, Nat.zero_le _⟩) hP hD hS hA (fun H locs hP hD hS => ?_)
          refine go_i (rn_V (ci := 4) (q0 := 0) X (c_X4_retire l D q ca nW nB hk E a1 (f_X4_reckoned (f_X4_f a1) false (f_X4_a nW nB E a1) (f_X4_offsetI a1))) ok_X4_retire wd_253 ⟨by decide, by decide⟩ hP hD rfl rfl rfl hl.1 rfl (Nat.le_of_ble_eq_true rfl) dX4_reckonWithNumber_91 ⟨Nat.zero_le _, Nat.zero_le _⟩) hP hD hS hA (fun H locs hP hD hS => ?_)
          exact rku_i (v := (f_X4_retire nW nB E a1 (f_X4_reckoned (f_X4_f a1) false (f_X4_a nW nB E a1) (f_X4_offsetI a1))).1) (F := (f_X4_reckonWithNumber nW nB E a1)) (E1 := (f_X4_retire nW nB E a1 (f_X4_reckoned (f_X4_f a1) false (f_X4_a nW nB E a1) (f_X4_offsetI a1))).2) (by unfold f_X4_reckonWithNumber; rw [if_pos c_1, if_pos c_10, if_pos c_11, if_neg c_12]; try rfl) X hP hD hS hAe hr hlk dX4_reckonWithNumber_94
        ·
          refine lv_iconst (v := (1 : Int32)) hx hb dX4_reckonWithNumber_74 (by decide) ?_
          refine lv_goto (tgt := 79) hx hb dX4_reckonWithNumber_75 (by decide) ?_
          refine lv_aload_n hx hb dX4_reckonWithNumber_79 rfl (lv_at hl 3 rfl) ?_
          refine lv_iload_n hx hb dX4_reckonWithNumber_80 rfl (lv_at hl 4 rfl) ?_
          refine go_i (rn_V (ci := 4) (q0 := 0) X (c_X4_a l D q ca nW nB hk E a1) ok_X4_a wd_276 ⟨by decide, by decide⟩ hP hD rfl rfl rfl hl.1 rfl (Nat.le_of_ble_eq_true rfl) dX4_reckonWithNumber_81 ⟨Nat.zero_le _, Nat.zero_le _⟩) hP hD hS hA (fun H locs hP hD hS => ?_)
          refine lv_iload_n hx hb dX4_reckonWithNumber_84 rfl (lv_at hl 4 rfl) ?_
          refine go_i (rn_S X (c_X4_offsetI l D _ _ a1) ok_X4_offsetI wd_283 ⟨by decide, by decide⟩ hP hD rfl hl.1 rfl (Nat.le_of_ble_eq_true rfl) dX4_reckonWithNumber_85 ⟨Nat.zero_le _, Nat.zero_le _⟩) hP hD hS hA (fun H locs hP hD hS => ?_)
          refine go_i (rn_S X (c_X4_reckoned l D _ _ (f_X4_f a1) true (f_X4_a nW nB E a1) (f_X4_offsetI a1)) ok_X4_reckoned wd_374 ⟨by decide, by decide⟩ hP hD rfl hl.1 rfl (Nat.le_of_ble_eq_true rfl) dX4_reckonWithNumber_88 ⟨Nat.zero_le _, Nat.zero_le _⟩) hP hD hS hA (fun H locs hP hD hS => ?_)
          refine go_i (rn_V (ci := 4) (q0 := 0) X (c_X4_retire l D q ca nW nB hk E a1 (f_X4_reckoned (f_X4_f a1) true (f_X4_a nW nB E a1) (f_X4_offsetI a1))) ok_X4_retire wd_253 ⟨by decide, by decide⟩ hP hD rfl rfl rfl hl.1 rfl (Nat.le_of_ble_eq_true rfl) dX4_reckonWithNumber_91 ⟨Nat.zero_le _, Nat.zero_le _⟩) hP hD hS hA (fun H locs hP hD hS => ?_)
          exact rku_i (v := (f_X4_retire nW nB E a1 (f_X4_reckoned (f_X4_f a1) true (f_X4_a nW nB E a1) (f_X4_offsetI a1))).1) (F := (f_X4_reckonWithNumber nW nB E a1)) (E1 := (f_X4_retire nW nB E a1 (f_X4_reckoned (f_X4_f a1) true (f_X4_a nW nB E a1) (f_X4_offsetI a1))).2) (by unfold f_X4_reckonWithNumber; rw [if_pos c_1, if_pos c_10, if_pos c_11, if_pos c_12]; try rfl) X hP hD hS hAe hr hlk dX4_reckonWithNumber_94
set_option maxHeartbeats 4000000 in
set_option maxRecDepth 100000 in
theorem c_X4_unsigned (l : Launch) (D : va_G) (tys : List (ClassId × FieldType)) (ws : va_W) (a1 : Int32) : Mt l yX4_unsigned cX4_unsigned 1 (some .long) 0 D tys [.int a1] ws (QcL D ws ws (f_X4_unsigned a1)) := by
  refine ent (own := RX4) rfl (by decide) (Nat.le_of_ble_eq_true rfl) ?_
  intro p e s m below meth c A ls X hr hlk hmn hAe hA hP hD hS hl
  have hx := X.1.1
  have hb := X.1.2.1
  have hl : lv_has ls 1 [(0, .int a1)] := hl
  refine lv_iload_n hx hb dX4_unsigned_0 rfl (lv_at hl 0 rfl) ?_
  refine lv_i2l (v := (a1).toInt64) hx hb dX4_unsigned_1 rfl ?_
  refine lv_ldc2 (v := (4294967295 : Int64)) hx hb X.1.2.2.2.1 (X.1.2.2.2.2 _ wd_362) dX4_unsigned_2 ?_
  refine lv_land hx hb dX4_unsigned_5 ?_
  exact rg_l (v := ((a1).toInt64 &&& (4294967295 : Int64))) (F := (f_X4_unsigned a1)) rfl X hP hD hS hAe hr hlk dX4_unsigned_6
set_option maxHeartbeats 4000000 in
set_option maxRecDepth 100000 in
theorem c_X4_divided (l : Launch) (D : va_G) (tys : List (ClassId × FieldType)) (ws : va_W) (a1 : Int32) (a2 : Int32) (a3 : Int32) : Mt l yX4_divided cX4_divided 9 (some .int) 1 D tys [.int a1, .int a2, .int a3] ws (QcI D ws ws (f_X4_divided a1 a2 a3)) := by
  refine ent (own := RX4) rfl (by decide) (Nat.le_of_ble_eq_true rfl) ?_
  intro p e s m below meth c A ls X hr hlk hmn hAe hA hP hD hS hl
  have hx := X.1.1
  have hb := X.1.2.1
  have hl : lv_has ls 9 [(0, .int a1), (1, .int a2), (2, .int a3)] := hl
  refine lv_iload_n hx hb dX4_divided_0 rfl (lv_at hl 0 rfl) ?_
  refine lv_bipush (v := (6 : Int32)) hx hb dX4_divided_1 (by decide) ?_
  refine lv_icmp_lt (tgt := 10) hx hb dX4_divided_3 (by decide) (fun c_1 => ?_) (fun c_1 => ?_)
  ·
    refine lv_iconst (v := (0 : Int32)) hx hb dX4_divided_10 (by decide) ?_
    refine lv_istore_n (lv' := [(3, .int (0 : Int32)), (0, .int a1), (1, .int a2), (2, .int a3)]) hx hb dX4_divided_11 rfl hl (by decide) rfl (fun ls hl => ?_)
    refine lv_iload_n hx hb dX4_divided_12 rfl (lv_at hl 3 rfl) ?_
    refine lv_if_ne (tgt := 26) hx hb dX4_divided_13 (by decide) (fun c_2 => ?_) (fun c_2 => ?_)
    ·
      refine lv_iload_n hx hb dX4_divided_26 rfl (lv_at hl 1 rfl) ?_
      refine lv_iconst (v := (1 : Int32)) hx hb dX4_divided_27 (by decide) ?_
      refine lv_iand hx hb dX4_divided_28 ?_
      refine lv_if_ne (tgt := 36) hx hb dX4_divided_29 (by decide) (fun c_3 => ?_) (fun c_3 => ?_)
      ·
        refine lv_iconst (v := (0 : Int32)) hx hb dX4_divided_36 (by decide) ?_
        refine lv_istore (lv' := [(4, .int (0 : Int32)), (3, .int (0 : Int32)), (0, .int a1), (1, .int a2), (2, .int a3)]) hx hb dX4_divided_37 hl (by decide) rfl (fun ls hl => ?_)
        refine lv_iload hx hb dX4_divided_39 (lv_at hl 0 rfl) ?_
        refine lv_if_eq (tgt := 49) hx hb dX4_divided_41 (by decide) (fun _ => ?_) (fun h => absurd (by decide) h)
        refine lv_iload_n hx hb dX4_divided_49 rfl (lv_at hl 3 rfl) ?_
        refine go_l (rn_S X (c_X4_unsigned l D _ _ a2) ok_X4_unsigned wd_384 ⟨by decide, by decide⟩ hP hD rfl hl.1 rfl (Nat.le_of_ble_eq_true rfl) dX4_divided_50 ⟨Nat.zero_le _, Nat.zero_le _⟩) hP hD hS hA (fun H locs hP hD hS => ?_)
        refine lv_lstore (lv' := [(5, .long (f_X4_unsigned a2)), (4, .int (0 : Int32)), (3, .int (0 : Int32)), (0, .int a1), (1, .int a2), (2, .int a3)]) hx hb dX4_divided_53 hl (by decide) rfl (fun ls hl => ?_)
        refine lv_iload hx hb dX4_divided_55 (lv_at hl 1 rfl) ?_
        refine lv_if_eq (tgt := 65) hx hb dX4_divided_57 (by decide) (fun _ => ?_) (fun h => absurd (by decide) h)
        refine lv_iload_n hx hb dX4_divided_65 rfl (lv_at hl 5 rfl) ?_
        refine go_l (rn_S X (c_X4_unsigned l D _ _ a3) ok_X4_unsigned wd_384 ⟨by decide, by decide⟩ hP hD rfl hl.1 rfl (Nat.le_of_ble_eq_true rfl) dX4_divided_66 ⟨Nat.zero_le _, Nat.zero_le _⟩) hP hD hS hA (fun H locs hP hD hS => ?_)
        refine lv_lstore (lv' := [(7, .long (f_X4_unsigned a3)), (5, .long (f_X4_unsigned a2)), (4, .int (0 : Int32)), (3, .int (0 : Int32)), (0, .int a1), (1, .int a2), (2, .int a3)]) hx hb dX4_divided_69 hl (by decide) rfl (fun ls hl => ?_)
        refine lv_iload_n hx hb dX4_divided_71 rfl (lv_at hl 3 rfl) ?_
        refine lv_if_eq (tgt := 83) hx hb dX4_divided_72 (by decide) (fun _ => ?_) (fun h => absurd (by decide) h)
        refine lv_lload hx hb dX4_divided_83 (lv_at hl 1 rfl) ?_
        refine lv_lload hx hb dX4_divided_85 (lv_at hl 0 rfl) ?_
        refine lv_ldiv hx hb dX4_divided_87 (uns_ne c_2) ?_
        refine lv_l2i (v := (((f_X4_unsigned a2) / (f_X4_unsigned a3))).toInt32) hx hb dX4_divided_88 rfl ?_
        exact rg_i (v := (((f_X4_unsigned a2) / (f_X4_unsigned a3))).toInt32) (F := (f_X4_divided a1 a2 a3)) (by unfold f_X4_divided; rw [if_pos c_1, if_neg c_2, if_neg c_3]; try rfl) X hP hD hS hAe hr hlk dX4_divided_89
      ·
        refine lv_iconst (v := (1 : Int32)) hx hb dX4_divided_32 (by decide) ?_
        refine lv_goto (tgt := 37) hx hb dX4_divided_33 (by decide) ?_
        refine lv_istore (lv' := [(4, .int (1 : Int32)), (3, .int (0 : Int32)), (0, .int a1), (1, .int a2), (2, .int a3)]) hx hb dX4_divided_37 hl (by decide) rfl (fun ls hl => ?_)
        refine lv_iload hx hb dX4_divided_39 (lv_at hl 0 rfl) ?_
        refine lv_if_eq (tgt := 49) hx hb dX4_divided_41 (by decide) (fun h => absurd h (by decide)) (fun _ => ?_)
        refine lv_iload_n hx hb dX4_divided_44 rfl (lv_at hl 3 rfl) ?_
        refine lv_i2l (v := (a2).toInt64) hx hb dX4_divided_45 rfl ?_
        refine lv_goto (tgt := 53) hx hb dX4_divided_46 (by decide) ?_
        refine lv_lstore (lv' := [(5, .long (a2).toInt64), (4, .int (1 : Int32)), (3, .int (0 : Int32)), (0, .int a1), (1, .int a2), (2, .int a3)]) hx hb dX4_divided_53 hl (by decide) rfl (fun ls hl => ?_)
        refine lv_iload hx hb dX4_divided_55 (lv_at hl 1 rfl) ?_
        refine lv_if_eq (tgt := 65) hx hb dX4_divided_57 (by decide) (fun h => absurd h (by decide)) (fun _ => ?_)
        refine lv_iload_n hx hb dX4_divided_60 rfl (lv_at hl 5 rfl) ?_
        refine lv_i2l (v := (a3).toInt64) hx hb dX4_divided_61 rfl ?_
        refine lv_goto (tgt := 69) hx hb dX4_divided_62 (by decide) ?_
        refine lv_lstore (lv' := [(7, .long (a3).toInt64), (5, .long (a2).toInt64), (4, .int (1 : Int32)), (3, .int (0 : Int32)), (0, .int a1), (1, .int a2), (2, .int a3)]) hx hb dX4_divided_69 hl (by decide) rfl (fun ls hl => ?_)
        refine lv_iload_n hx hb dX4_divided_71 rfl (lv_at hl 3 rfl) ?_
        refine lv_if_eq (tgt := 83) hx hb dX4_divided_72 (by decide) (fun _ => ?_) (fun h => absurd (by decide) h)
        refine lv_lload hx hb dX4_divided_83 (lv_at hl 1 rfl) ?_
        refine lv_lload hx hb dX4_divided_85 (lv_at hl 0 rfl) ?_
        refine lv_ldiv hx hb dX4_divided_87 (i2l_ne c_2) ?_
        refine lv_l2i (v := (((a2).toInt64 / (a3).toInt64)).toInt32) hx hb dX4_divided_88 rfl ?_
        exact rg_i (v := (((a2).toInt64 / (a3).toInt64)).toInt32) (F := (f_X4_divided a1 a2 a3)) (by unfold f_X4_divided; rw [if_pos c_1, if_neg c_2, if_pos c_3]; try rfl) X hP hD hS hAe hr hlk dX4_divided_89
    ·
      refine lv_iload_n hx hb dX4_divided_16 rfl (lv_at hl 0 rfl) ?_
      refine lv_if_eq (tgt := 24) hx hb dX4_divided_17 (by decide) (fun _ => ?_) (fun h => absurd (by decide) h)
      refine lv_iconst (v := (-1 : Int32)) hx hb dX4_divided_24 (by decide) ?_
      exact rg_i (v := (-1 : Int32)) (F := (f_X4_divided a1 a2 a3)) (by unfold f_X4_divided; rw [if_pos c_1, if_pos c_2]; try rfl) X hP hD hS hAe hr hlk dX4_divided_25
  ·
    refine lv_iconst (v := (1 : Int32)) hx hb dX4_divided_6 (by decide) ?_
    refine lv_goto (tgt := 11) hx hb dX4_divided_7 (by decide) ?_
    refine lv_istore_n (lv' := [(3, .int (1 : Int32)), (0, .int a1), (1, .int a2), (2, .int a3)]) hx hb dX4_divided_11 rfl hl (by decide) rfl (fun ls hl => ?_)
    refine lv_iload_n hx hb dX4_divided_12 rfl (lv_at hl 3 rfl) ?_
    refine lv_if_ne (tgt := 26) hx hb dX4_divided_13 (by decide) (fun c_4 => ?_) (fun c_4 => ?_)
    ·
      refine lv_iload_n hx hb dX4_divided_26 rfl (lv_at hl 1 rfl) ?_
      refine lv_iconst (v := (1 : Int32)) hx hb dX4_divided_27 (by decide) ?_
      refine lv_iand hx hb dX4_divided_28 ?_
      refine lv_if_ne (tgt := 36) hx hb dX4_divided_29 (by decide) (fun c_5 => ?_) (fun c_5 => ?_)
      ·
        refine lv_iconst (v := (0 : Int32)) hx hb dX4_divided_36 (by decide) ?_
        refine lv_istore (lv' := [(4, .int (0 : Int32)), (3, .int (1 : Int32)), (0, .int a1), (1, .int a2), (2, .int a3)]) hx hb dX4_divided_37 hl (by decide) rfl (fun ls hl => ?_)
        refine lv_iload hx hb dX4_divided_39 (lv_at hl 0 rfl) ?_
        refine lv_if_eq (tgt := 49) hx hb dX4_divided_41 (by decide) (fun _ => ?_) (fun h => absurd (by decide) h)
        refine lv_iload_n hx hb dX4_divided_49 rfl (lv_at hl 3 rfl) ?_
        refine go_l (rn_S X (c_X4_unsigned l D _ _ a2) ok_X4_unsigned wd_384 ⟨by decide, by decide⟩ hP hD rfl hl.1 rfl (Nat.le_of_ble_eq_true rfl) dX4_divided_50 ⟨Nat.zero_le _, Nat.zero_le _⟩) hP hD hS hA (fun H locs hP hD hS => ?_)
        refine lv_lstore (lv' := [(5, .long (f_X4_unsigned a2)), (4, .int (0 : Int32)), (3, .int (1 : Int32)), (0, .int a1), (1, .int a2), (2, .int a3)]) hx hb dX4_divided_53 hl (by decide) rfl (fun ls hl => ?_)
        refine lv_iload hx hb dX4_divided_55 (lv_at hl 1 rfl) ?_
        refine lv_if_eq (tgt := 65) hx hb dX4_divided_57 (by decide) (fun _ => ?_) (fun h => absurd (by decide) h)
        refine lv_iload_n hx hb dX4_divided_65 rfl (lv_at hl 5 rfl) ?_
        refine go_l (rn_S X (c_X4_unsigned l D _ _ a3) ok_X4_unsigned wd_384 ⟨by decide, by decide⟩ hP hD rfl hl.1 rfl (Nat.le_of_ble_eq_true rfl) dX4_divided_66 ⟨Nat.zero_le _, Nat.zero_le _⟩) hP hD hS hA (fun H locs hP hD hS => ?_)
        refine lv_lstore (lv' := [(7, .long (f_X4_unsigned a3)), (5, .long (f_X4_unsigned a2)), (4, .int (0 : Int32)), (3, .int (1 : Int32)), (0, .int a1), (1, .int a2), (2, .int a3)]) hx hb dX4_divided_69 hl (by decide) rfl (fun ls hl => ?_)
        refine lv_iload_n hx hb dX4_divided_71 rfl (lv_at hl 3 rfl) ?_
        refine lv_if_eq (tgt := 83) hx hb dX4_divided_72 (by decide) (fun h => absurd h (by decide)) (fun _ => ?_)
        refine lv_lload hx hb dX4_divided_75 (lv_at hl 1 rfl) ?_
        refine lv_lload hx hb dX4_divided_77 (lv_at hl 0 rfl) ?_
        refine lv_lrem hx hb dX4_divided_79 (uns_ne c_4) ?_
        refine lv_goto (tgt := 88) hx hb dX4_divided_80 (by decide) ?_
        refine lv_l2i (v := (((f_X4_unsigned a2) - (f_X4_unsigned a2) / (f_X4_unsigned a3) * (f_X4_unsigned a3))).toInt32) hx hb dX4_divided_88 rfl ?_
        exact rg_i (v := (((f_X4_unsigned a2) - (f_X4_unsigned a2) / (f_X4_unsigned a3) * (f_X4_unsigned a3))).toInt32) (F := (f_X4_divided a1 a2 a3)) (by unfold f_X4_divided; rw [if_neg c_1, if_neg c_4, if_neg c_5]; try rfl) X hP hD hS hAe hr hlk dX4_divided_89
      ·
        refine lv_iconst (v := (1 : Int32)) hx hb dX4_divided_32 (by decide) ?_
        refine lv_goto (tgt := 37) hx hb dX4_divided_33 (by decide) ?_
        refine lv_istore (lv' := [(4, .int (1 : Int32)), (3, .int (1 : Int32)), (0, .int a1), (1, .int a2), (2, .int a3)]) hx hb dX4_divided_37 hl (by decide) rfl (fun ls hl => ?_)
        refine lv_iload hx hb dX4_divided_39 (lv_at hl 0 rfl) ?_
        refine lv_if_eq (tgt := 49) hx hb dX4_divided_41 (by decide) (fun h => absurd h (by decide)) (fun _ => ?_)
        refine lv_iload_n hx hb dX4_divided_44 rfl (lv_at hl 3 rfl) ?_
        refine lv_i2l (v := (a2).toInt64) hx hb dX4_divided_45 rfl ?_
        refine lv_goto (tgt := 53) hx hb dX4_divided_46 (by decide) ?_
        refine lv_lstore (lv' := [(5, .long (a2).toInt64), (4, .int (1 : Int32)), (3, .int (1 : Int32)), (0, .int a1), (1, .int a2), (2, .int a3)]) hx hb dX4_divided_53 hl (by decide) rfl (fun ls hl => ?_)
        refine lv_iload hx hb dX4_divided_55 (lv_at hl 1 rfl) ?_
        refine lv_if_eq (tgt := 65) hx hb dX4_divided_57 (by decide) (fun h => absurd h (by decide)) (fun _ => ?_)
        refine lv_iload_n hx hb dX4_divided_60 rfl (lv_at hl 5 rfl) ?_
        refine lv_i2l (v := (a3).toInt64) hx hb dX4_divided_61 rfl ?_
        refine lv_goto (tgt := 69) hx hb dX4_divided_62 (by decide) ?_
        refine lv_lstore (lv' := [(7, .long (a3).toInt64), (5, .long (a2).toInt64), (4, .int (1 : Int32)), (3, .int (1 : Int32)), (0, .int a1), (1, .int a2), (2, .int a3)]) hx hb dX4_divided_69 hl (by decide) rfl (fun ls hl => ?_)
        refine lv_iload_n hx hb dX4_divided_71 rfl (lv_at hl 3 rfl) ?_
        refine lv_if_eq (tgt := 83) hx hb dX4_divided_72 (by decide) (fun h => absurd h (by decide)) (fun _ => ?_)
        refine lv_lload hx hb dX4_divided_75 (lv_at hl 1 rfl) ?_
        refine lv_lload hx hb dX4_divided_77 (lv_at hl 0 rfl) ?_
        refine lv_lrem hx hb dX4_divided_79 (i2l_ne c_4) ?_
        refine lv_goto (tgt := 88) hx hb dX4_divided_80 (by decide) ?_
        refine lv_l2i (v := (((a2).toInt64 - (a2).toInt64 / (a3).toInt64 * (a3).toInt64)).toInt32) hx hb dX4_divided_88 rfl ?_
        exact rg_i (v := (((a2).toInt64 - (a2).toInt64 / (a3).toInt64 * (a3).toInt64)).toInt32) (F := (f_X4_divided a1 a2 a3)) (by unfold f_X4_divided; rw [if_neg c_1, if_neg c_4, if_pos c_5]; try rfl) X hP hD hS hAe hr hlk dX4_divided_89
    ·
      refine lv_iload_n hx hb dX4_divided_16 rfl (lv_at hl 0 rfl) ?_
      refine lv_if_eq (tgt := 24) hx hb dX4_divided_17 (by decide) (fun h => absurd h (by decide)) (fun _ => ?_)
      refine lv_iload_n hx hb dX4_divided_20 rfl (lv_at hl 2 rfl) ?_
      refine lv_goto (tgt := 25) hx hb dX4_divided_21 (by decide) ?_
      exact rg_i (v := a2) (F := (f_X4_divided a1 a2 a3)) (by unfold f_X4_divided; rw [if_neg c_1, if_pos c_4]; try rfl) X hP hD hS hAe hr hlk dX4_divided_25
