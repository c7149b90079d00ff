/-! contracts: X4_product X4_reckonWithRegister X2_send X3_withHalf X3_setHalf X4_offsetS X4_store X0_leave X4_system X4_instruct X4_stepOnce -/
set_option maxHeartbeats 4000000 in
set_option maxRecDepth 100000 in
theorem c_X4_product (l : Launch) (D : va_G) (tys : List (ClassId × FieldType)) (ws : va_W) (a1 : Int32) (a2 : Int32) (a3 : Int32) : Mt l yX4_product cX4_product 3 (some .int) 1 D tys [.int a1, .int a2, .int a3] ws (QcI D ws ws (f_X4_product a1 a2 a3)) := by
  refine ent (own := RX4) rfl (by decide) (Nat.le_of_ble_eq_true rfl) ?_
  intro p e s m below meth c A ls X hr hlk hmn hAe hA hP hD hS hl
  have hx := X.1.1
  have hb := X.1.2.1
  have hl : lv_has ls 3 [(0, .int a1), (1, .int a2), (2, .int a3)] := hl
  refine lv_iload_n hx hb dX4_product_0 rfl (lv_at hl 0 rfl) ?_
  by_cases c_1 : a1 = (0 : Int32)
  ·
    refine lv_tableIn (off := 27) (tgt := 28) hx hb dX4_product_1 (by rw [c_1]; decide) (by rw [c_1]; decide) (by rw [c_1]; decide) (by decide) ?_
    refine lv_iload_n hx hb dX4_product_28 rfl (lv_at hl 1 rfl) ?_
    refine lv_iload_n hx hb dX4_product_29 rfl (lv_at hl 2 rfl) ?_
    refine lv_imul hx hb dX4_product_30 ?_
    exact rg_i (v := (a2 * a3)) (F := (f_X4_product a1 a2 a3)) (by unfold f_X4_product; rw [if_pos c_1]; try rfl) X hP hD hS hAe hr hlk dX4_product_31
  by_cases c_2 : a1 = (1 : Int32)
  ·
    refine lv_tableIn (off := 31) (tgt := 32) hx hb dX4_product_1 (by rw [c_2]; decide) (by rw [c_2]; decide) (by rw [c_2]; decide) (by decide) ?_
    refine lv_iload_n hx hb dX4_product_32 rfl (lv_at hl 1 rfl) ?_
    refine lv_i2l (v := (a2).toInt64) hx hb dX4_product_33 rfl ?_
    refine lv_iload_n hx hb dX4_product_34 rfl (lv_at hl 2 rfl) ?_
    refine lv_i2l (v := (a3).toInt64) hx hb dX4_product_35 rfl ?_
    refine lv_lmul hx hb dX4_product_36 ?_
    refine lv_bipush (v := (32 : Int32)) hx hb dX4_product_37 (by decide) ?_
    refine lv_lshr (v := (jlshr ((a2).toInt64 * (a3).toInt64) (32 : Int32))) hx hb dX4_product_39 rfl ?_
    refine lv_l2i (v := ((jlshr ((a2).toInt64 * (a3).toInt64) (32 : Int32))).toInt32) hx hb dX4_product_40 rfl ?_
    exact rg_i (v := ((jlshr ((a2).toInt64 * (a3).toInt64) (32 : Int32))).toInt32) (F := (f_X4_product a1 a2 a3)) (by unfold f_X4_product; rw [if_neg c_1, if_pos c_2]; try rfl) X hP hD hS hAe hr hlk dX4_product_41
  by_cases c_3 : a1 = (2 : Int32)
  ·
    refine lv_tableIn (off := 41) (tgt := 42) hx hb dX4_product_1 (by rw [c_3]; decide) (by rw [c_3]; decide) (by rw [c_3]; decide) (by decide) ?_
    refine lv_iload_n hx hb dX4_product_42 rfl (lv_at hl 1 rfl) ?_
    refine lv_i2l (v := (a2).toInt64) hx hb dX4_product_43 rfl ?_
    refine lv_iload_n hx hb dX4_product_44 rfl (lv_at hl 2 rfl) ?_
    refine go_l (rn_S X (c_X4_unsigned l D _ _ a3) ok_X4_unsigned wd_384 ⟨by decide, by decide⟩ hP hD rfl hl.1 rfl (Nat.le_of_ble_eq_true rfl) dX4_product_45 ⟨Nat.zero_le _, Nat.zero_le _⟩) hP hD hS hA (fun H locs hP hD hS => ?_)
    refine lv_lmul hx hb dX4_product_48 ?_
    refine lv_bipush (v := (32 : Int32)) hx hb dX4_product_49 (by decide) ?_
    refine lv_lshr (v := (jlshr ((a2).toInt64 * (f_X4_unsigned a3)) (32 : Int32))) hx hb dX4_product_51 rfl ?_
    refine lv_l2i (v := ((jlshr ((a2).toInt64 * (f_X4_unsigned a3)) (32 : Int32))).toInt32) hx hb dX4_product_52 rfl ?_
    exact rg_i (v := ((jlshr ((a2).toInt64 * (f_X4_unsigned a3)) (32 : Int32))).toInt32) (F := (f_X4_product a1 a2 a3)) (by unfold f_X4_product; rw [if_neg c_1, if_neg c_2, if_pos c_3]; try rfl) X hP hD hS hAe hr hlk dX4_product_53
  refine lv_tableOut (tgt := 54) hx hb dX4_product_1 (by have := lv_neT (a := 0) c_1 (by decide); have := lv_neT (a := 1) c_2 (by decide); have := lv_neT (a := 2) c_3 (by decide); omega) (by decide) ?_
  refine lv_iload_n hx hb dX4_product_54 rfl (lv_at hl 1 rfl) ?_
  refine go_l (rn_S X (c_X4_unsigned l D _ _ a2) ok_X4_unsigned wd_384 ⟨by decide, by decide⟩ hP hD rfl hl.1 rfl (Nat.le_of_ble_eq_true rfl) dX4_product_55 ⟨Nat.zero_le _, Nat.zero_le _⟩) hP hD hS hA (fun H locs hP hD hS => ?_)
  refine lv_iload_n hx hb dX4_product_58 rfl (lv_at hl 2 rfl) ?_
  refine go_l (rn_S X (c_X4_unsigned l D _ _ a3) ok_X4_unsigned wd_384 ⟨by decide, by decide⟩ hP hD rfl hl.1 rfl (Nat.le_of_ble_eq_true rfl) dX4_product_59 ⟨Nat.zero_le _, Nat.zero_le _⟩) hP hD hS hA (fun H locs hP hD hS => ?_)
  refine lv_lmul hx hb dX4_product_62 ?_
  refine lv_bipush (v := (32 : Int32)) hx hb dX4_product_63 (by decide) ?_
  refine lv_lshr (v := (jlshr ((f_X4_unsigned a2) * (f_X4_unsigned a3)) (32 : Int32))) hx hb dX4_product_65 rfl ?_
  refine lv_l2i (v := ((jlshr ((f_X4_unsigned a2) * (f_X4_unsigned a3)) (32 : Int32))).toInt32) hx hb dX4_product_66 rfl ?_
  exact rg_i (v := ((jlshr ((f_X4_unsigned a2) * (f_X4_unsigned a3)) (32 : Int32))).toInt32) (F := (f_X4_product a1 a2 a3)) (by unfold f_X4_product; rw [if_neg c_1, if_neg c_2, if_neg c_3]; try rfl) X hP hD hS hAe hr hlk dX4_product_67
set_option maxHeartbeats 4000000 in
set_option maxRecDepth 100000 in
theorem c_X4_reckonWithRegister (l : Launch) (D : va_G) (q : Nat → Nat) (ca : Nat → ClassId) (nW nB : Nat) (hk : KOk nW nB) (E : KS) (a1 : Int32) : Mt l yX4_reckonWithRegister cX4_reckonWithRegister 6 (some .int) 4 D (tysK ca) [.ref (q 0), .int a1] (cwK q ca nW nB E) (QcI D (cwK q ca nW nB E) (cwK q ca nW nB (f_X4_reckonWithRegister nW nB E a1).2) (f_X4_reckonWithRegister nW nB E a1).1) := by
  refine ent (own := RX4) rfl (by decide) (Nat.le_of_ble_eq_true rfl) ?_
  intro p e s m below meth c A ls X hr hlk hmn hAe hA hP hD hS hl
  have hx := X.1.1
  have hb := X.1.2.1
  have hl : lv_has ls 6 [(0, .ref (q 0)), (1, .int a1)] := hl
  refine lv_iload_n hx hb dX4_reckonWithRegister_0 rfl (lv_at hl 1 rfl) ?_
  refine go_i (rn_S X (c_X4_f l D _ _ a1) ok_X4_f wd_273 ⟨by decide, by decide⟩ hP hD rfl hl.1 rfl (Nat.le_of_ble_eq_true rfl) dX4_reckonWithRegister_1 ⟨Nat.zero_le _, Nat.zero_le _⟩) hP hD hS hA (fun H locs hP hD hS => ?_)
  refine lv_istore_n (lv' := [(2, .int (f_X4_f a1)), (0, .ref (q 0)), (1, .int a1)]) hx hb dX4_reckonWithRegister_4 rfl hl (by decide) rfl (fun ls hl => ?_)
  refine lv_iload_n hx hb dX4_reckonWithRegister_5 rfl (lv_at hl 2 rfl) ?_
  refine go_i (rn_S X (c_X4_g l D _ _ a1) ok_X4_g wd_371 ⟨by decide, by decide⟩ hP hD rfl hl.1 rfl (Nat.le_of_ble_eq_true rfl) dX4_reckonWithRegister_6 ⟨Nat.zero_le _, Nat.zero_le _⟩) hP hD hS hA (fun H locs hP hD hS => ?_)
  refine lv_istore_n (lv' := [(3, .int (f_X4_g a1)), (2, .int (f_X4_f a1)), (0, .ref (q 0)), (1, .int a1)]) hx hb dX4_reckonWithRegister_9 rfl hl (by decide) rfl (fun ls hl => ?_)
  refine lv_aload_n hx hb dX4_reckonWithRegister_10 rfl (lv_at hl 2 rfl) ?_
  refine lv_iload_n hx hb dX4_reckonWithRegister_11 rfl (lv_at hl 3 rfl) ?_
  refine go_i (rn_V (ci := 4) (q0 := 0) X (c_X4_a l D q ca nW nB hk E a1) ok_X4_a wd_276 ⟨by decide, by decide⟩ hP hD rfl rfl rfl hl.1 rfl (Nat.le_of_ble_eq_true rfl) dX4_reckonWithRegister_12 ⟨Nat.zero_le _, Nat.zero_le _⟩) hP hD hS hA (fun H locs hP hD hS => ?_)
  refine lv_istore (lv' := [(4, .int (f_X4_a nW nB E a1)), (3, .int (f_X4_g a1)), (2, .int (f_X4_f a1)), (0, .ref (q 0)), (1, .int a1)]) hx hb dX4_reckonWithRegister_15 hl (by decide) rfl (fun ls hl => ?_)
  refine lv_aload_n hx hb dX4_reckonWithRegister_17 rfl (lv_at hl 3 rfl) ?_
  refine lv_iload_n hx hb dX4_reckonWithRegister_18 rfl (lv_at hl 4 rfl) ?_
  refine go_i (rn_V (ci := 4) (q0 := 0) X (c_X4_b l D q ca nW nB hk E a1) ok_X4_b wd_294 ⟨by decide, by decide⟩ hP hD rfl rfl rfl hl.1 rfl (Nat.le_of_ble_eq_true rfl) dX4_reckonWithRegister_19 ⟨Nat.zero_le _, Nat.zero_le _⟩) hP hD hS hA (fun H locs hP hD hS => ?_)
  refine lv_istore (lv' := [(5, .int (f_X4_b nW nB E a1)), (4, .int (f_X4_a nW nB E a1)), (3, .int (f_X4_g a1)), (2, .int (f_X4_f a1)), (0, .ref (q 0)), (1, .int a1)]) hx hb dX4_reckonWithRegister_22 hl (by decide) rfl (fun ls hl => ?_)
  refine lv_iload_n hx hb dX4_reckonWithRegister_24 rfl (lv_at hl 2 rfl) ?_
  refine lv_iconst (v := (1 : Int32)) hx hb dX4_reckonWithRegister_25 (by decide) ?_
  refine lv_icmp_ne (tgt := 59) hx hb dX4_reckonWithRegister_26 (by decide) (fun c_1 => ?_) (fun c_1 => ?_)
  ·
    refine lv_iload_n hx hb dX4_reckonWithRegister_59 rfl (lv_at hl 2 rfl) ?_
    refine lv_if_eq (tgt := 84) hx hb dX4_reckonWithRegister_60 (by decide) (fun c_2 => ?_) (fun c_2 => ?_)
    ·
      refine lv_aload_n hx hb dX4_reckonWithRegister_84 rfl (lv_at hl 4 rfl) ?_
      refine lv_iload_n hx hb dX4_reckonWithRegister_85 rfl (lv_at hl 5 rfl) ?_
      refine lv_iload_n hx hb dX4_reckonWithRegister_86 rfl (lv_at hl 3 rfl) ?_
      refine lv_iload_n hx hb dX4_reckonWithRegister_87 rfl (lv_at hl 2 rfl) ?_
      refine lv_bipush (v := (32 : Int32)) hx hb dX4_reckonWithRegister_88 (by decide) ?_
      refine lv_icmp_ne (tgt := 97) hx hb dX4_reckonWithRegister_90 (by decide) (fun c_3 => ?_) (fun c_3 => ?_)
      ·
        refine lv_iconst (v := (0 : Int32)) hx hb dX4_reckonWithRegister_97 (by decide) ?_
        refine lv_iload hx hb dX4_reckonWithRegister_98 (lv_at hl 1 rfl) ?_
        refine lv_iload hx hb dX4_reckonWithRegister_100 (lv_at hl 0 rfl) ?_
        refine go_i (rn_S X (c_X4_reckoned l D _ _ (f_X4_f a1) false (f_X4_a nW nB E a1) (f_X4_b nW nB E a1)) ok_X4_reckoned wd_374 ⟨by decide, by decide⟩ hP hD rfl hl.1 rfl (Nat.le_of_ble_eq_true rfl) dX4_reckonWithRegister_102 ⟨Nat.zero_le _, Nat.zero_le _⟩) hP hD hS hA (fun H locs hP hD hS => ?_)
        refine go_i (rn_V (ci := 4) (q0 := 0) X (c_X4_retire l D q ca nW nB hk E a1 (f_X4_reckoned (f_X4_f a1) false (f_X4_a nW nB E a1) (f_X4_b nW nB E a1))) ok_X4_retire wd_253 ⟨by decide, by decide⟩ hP hD rfl rfl rfl hl.1 rfl (Nat.le_of_ble_eq_true rfl) dX4_reckonWithRegister_105 ⟨Nat.zero_le _, Nat.zero_le _⟩) hP hD hS hA (fun H locs hP hD hS => ?_)
        exact rku_i (v := (f_X4_retire nW nB E a1 (f_X4_reckoned (f_X4_f a1) false (f_X4_a nW nB E a1) (f_X4_b nW nB E a1))).1) (F := (f_X4_reckonWithRegister nW nB E a1)) (E1 := (f_X4_retire nW nB E a1 (f_X4_reckoned (f_X4_f a1) false (f_X4_a nW nB E a1) (f_X4_b nW nB E a1))).2) (by unfold f_X4_reckonWithRegister; rw [if_neg c_1, if_pos c_2, if_neg c_3]; try rfl) X hP hD hS hAe hr hlk dX4_reckonWithRegister_108
      ·
        refine lv_iconst (v := (1 : Int32)) hx hb dX4_reckonWithRegister_93 (by decide) ?_
        refine lv_goto (tgt := 98) hx hb dX4_reckonWithRegister_94 (by decide) ?_
        refine lv_iload hx hb dX4_reckonWithRegister_98 (lv_at hl 1 rfl) ?_
        refine lv_iload hx hb dX4_reckonWithRegister_100 (lv_at hl 0 rfl) ?_
        refine go_i (rn_S X (c_X4_reckoned l D _ _ (f_X4_f a1) true (f_X4_a nW nB E a1) (f_X4_b nW nB E a1)) ok_X4_reckoned wd_374 ⟨by decide, by decide⟩ hP hD rfl hl.1 rfl (Nat.le_of_ble_eq_true rfl) dX4_reckonWithRegister_102 ⟨Nat.zero_le _, Nat.zero_le _⟩) hP hD hS hA (fun H locs hP hD hS => ?_)
        refine go_i (rn_V (ci := 4) (q0 := 0) X (c_X4_retire l D q ca nW nB hk E a1 (f_X4_reckoned (f_X4_f a1) true (f_X4_a nW nB E a1) (f_X4_b nW nB E a1))) ok_X4_retire wd_253 ⟨by decide, by decide⟩ hP hD rfl rfl rfl hl.1 rfl (Nat.le_of_ble_eq_true rfl) dX4_reckonWithRegister_105 ⟨Nat.zero_le _, Nat.zero_le _⟩) hP hD hS hA (fun H locs hP hD hS => ?_)
        exact rku_i (v := (f_X4_retire nW nB E a1 (f_X4_reckoned (f_X4_f a1) true (f_X4_a nW nB E a1) (f_X4_b nW nB E a1))).1) (F := (f_X4_reckonWithRegister nW nB E a1)) (E1 := (f_X4_retire nW nB E a1 (f_X4_reckoned (f_X4_f a1) true (f_X4_a nW nB E a1) (f_X4_b nW nB E a1))).2) (by unfold f_X4_reckonWithRegister; rw [if_neg c_1, if_pos c_2, if_pos c_3]; try rfl) X hP hD hS hAe hr hlk dX4_reckonWithRegister_108
    ·
      refine lv_iload_n hx hb dX4_reckonWithRegister_63 rfl (lv_at hl 2 rfl) ?_
      refine lv_bipush (v := (32 : Int32)) hx hb dX4_reckonWithRegister_64 (by decide) ?_
      refine lv_icmp_ne (tgt := 78) hx hb dX4_reckonWithRegister_66 (by decide) (fun c_4 => ?_) (fun c_4 => ?_)
      ·
        refine lv_aload_n hx hb dX4_reckonWithRegister_78 rfl (lv_at hl 4 rfl) ?_
        refine lv_iload_n hx hb dX4_reckonWithRegister_79 rfl (lv_at hl 5 rfl) ?_
        refine go_i (rn_V (ci := 4) (q0 := 0) X (c_X4_illegal l D q ca nW nB hk E a1) ok_X4_illegal wd_286 ⟨by decide, by decide⟩ hP hD rfl rfl rfl hl.1 rfl (Nat.le_of_ble_eq_true rfl) dX4_reckonWithRegister_80 ⟨Nat.zero_le _, Nat.zero_le _⟩) hP hD hS hA (fun H locs hP hD hS => ?_)
        exact rku_i (v := (f_X4_illegal nW nB E a1).1) (F := (f_X4_reckonWithRegister nW nB E a1)) (E1 := (f_X4_illegal nW nB E a1).2) (by unfold f_X4_reckonWithRegister; rw [if_neg c_1, if_neg c_2, if_neg c_4]; try rfl) X hP hD hS hAe hr hlk dX4_reckonWithRegister_83
      ·
        refine lv_iload_n hx hb dX4_reckonWithRegister_69 rfl (lv_at hl 3 rfl) ?_
        refine lv_if_eq (tgt := 84) hx hb dX4_reckonWithRegister_70 (by decide) (fun c_5 => ?_) (fun c_5 => ?_)
        ·
          refine lv_aload_n hx hb dX4_reckonWithRegister_84 rfl (lv_at hl 4 rfl) ?_
          refine lv_iload_n hx hb dX4_reckonWithRegister_85 rfl (lv_at hl 5 rfl) ?_
          refine lv_iload_n hx hb dX4_reckonWithRegister_86 rfl (lv_at hl 3 rfl) ?_
          refine lv_iload_n hx hb dX4_reckonWithRegister_87 rfl (lv_at hl 2 rfl) ?_
          refine lv_bipush (v := (32 : Int32)) hx hb dX4_reckonWithRegister_88 (by decide) ?_
          refine lv_icmp_ne (tgt := 97) hx hb dX4_reckonWithRegister_90 (by decide) (fun h => absurd c_4 h) (fun _ => ?_)
          refine lv_iconst (v := (1 : Int32)) hx hb dX4_reckonWithRegister_93 (by decide) ?_
          refine lv_goto (tgt := 98) hx hb dX4_reckonWithRegister_94 (by decide) ?_
          refine lv_iload hx hb dX4_reckonWithRegister_98 (lv_at hl 1 rfl) ?_
          refine lv_iload hx hb dX4_reckonWithRegister_100 (lv_at hl 0 rfl) ?_
          refine go_i (rn_S X (c_X4_reckoned l D _ _ (f_X4_f a1) true (f_X4_a nW nB E a1) (f_X4_b nW nB E a1)) ok_X4_reckoned wd_374 ⟨by decide, by decide⟩ hP hD rfl hl.1 rfl (Nat.le_of_ble_eq_true rfl) dX4_reckonWithRegister_102 ⟨Nat.zero_le _, Nat.zero_le _⟩) hP hD hS hA (fun H locs hP hD hS => ?_)
          refine go_i (rn_V (ci := 4) (q0 := 0) X (c_X4_retire l D q ca nW nB hk E a1 (f_X4_reckoned (f_X4_f a1) true (f_X4_a nW nB E a1) (f_X4_b nW nB E a1))) ok_X4_retire wd_253 ⟨by decide, by decide⟩ hP hD rfl rfl rfl hl.1 rfl (Nat.le_of_ble_eq_true rfl) dX4_reckonWithRegister_105 ⟨Nat.zero_le _, Nat.zero_le _⟩) hP hD hS hA (fun H locs hP hD hS => ?_)
          exact rku_i (v := (f_X4_retire nW nB E a1 (f_X4_reckoned (f_X4_f a1) true (f_X4_a nW nB E a1) (f_X4_b nW nB E a1))).1) (F := (f_X4_reckonWithRegister nW nB E a1)) (E1 := (f_X4_retire nW nB E a1 (f_X4_reckoned (f_X4_f a1) true (f_X4_a nW nB E a1) (f_X4_b nW nB E a1))).2) (by unfold f_X4_reckonWithRegister; rw [if_neg c_1, if_neg c_2, if_pos c_4, if_pos c_5]; try rfl) X hP hD hS hAe hr hlk dX4_reckonWithRegister_108
        ·
          refine lv_iload_n hx hb dX4_reckonWithRegister_73 rfl (lv_at hl 3 rfl) ?_
          refine lv_iconst (v := (5 : Int32)) hx hb dX4_reckonWithRegister_74 (by decide) ?_
          refine lv_icmp_eq (tgt := 84) hx hb dX4_reckonWithRegister_75 (by decide) (fun c_7 => ?_) (fun c_7 => ?_)
          ·
            refine lv_aload_n hx hb dX4_reckonWithRegister_84 rfl (lv_at hl 4 rfl) ?_
            refine lv_iload_n hx hb dX4_reckonWithRegister_85 rfl (lv_at hl 5 rfl) ?_
            refine lv_iload_n hx hb dX4_reckonWithRegister_86 rfl (lv_at hl 3 rfl) ?_
            refine lv_iload_n hx hb dX4_reckonWithRegister_87 rfl (lv_at hl 2 rfl) ?_
            refine lv_bipush (v := (32 : Int32)) hx hb dX4_reckonWithRegister_88 (by decide) ?_
            refine lv_icmp_ne (tgt := 97) hx hb dX4_reckonWithRegister_90 (by decide) (fun h => absurd c_4 h) (fun _ => ?_)
            refine lv_iconst (v := (1 : Int32)) hx hb dX4_reckonWithRegister_93 (by decide) ?_
            refine lv_goto (tgt := 98) hx hb dX4_reckonWithRegister_94 (by decide) ?_
            refine lv_iload hx hb dX4_reckonWithRegister_98 (lv_at hl 1 rfl) ?_
            refine lv_iload hx hb dX4_reckonWithRegister_100 (lv_at hl 0 rfl) ?_
            refine go_i (rn_S X (c_X4_reckoned l D _ _ (f_X4_f a1) true (f_X4_a nW nB E a1) (f_X4_b nW nB E a1)) ok_X4_reckoned wd_374 ⟨by decide, by decide⟩ hP hD rfl hl.1 rfl (Nat.le_of_ble_eq_true rfl) dX4_reckonWithRegister_102 ⟨Nat.zero_le _, Nat.zero_le _⟩) hP hD hS hA (fun H locs hP hD hS => ?_)
            refine go_i (rn_V (ci := 4) (q0 := 0) X (c_X4_retire l D q ca nW nB hk E a1 (f_X4_reckoned (f_X4_f a1) true (f_X4_a nW nB E a1) (f_X4_b nW nB E a1))) ok_X4_retire wd_253 ⟨by decide, by decide⟩ hP hD rfl rfl rfl hl.1 rfl (Nat.le_of_ble_eq_true rfl) dX4_reckonWithRegister_105 ⟨Nat.zero_le _, Nat.zero_le _⟩) hP hD hS hA (fun H locs hP hD hS => ?_)
            exact rku_i (v := (f_X4_retire nW nB E a1 (f_X4_reckoned (f_X4_f a1) true (f_X4_a nW nB E a1) (f_X4_b nW nB E a1))).1) (F := (f_X4_reckonWithRegister nW nB E a1)) (E1 := (f_X4_retire nW nB E a1 (f_X4_reckoned (f_X4_f a1) true (f_X4_a nW nB E a1) (f_X4_b nW nB E a1))).2) (by unfold f_X4_reckonWithRegister; rw [if_neg c_1, if_neg c_2, if_pos c_4, if_neg c_5, if_pos c_7]; try rfl) X hP hD hS hAe hr hlk dX4_reckonWithRegister_108
          ·
            refine lv_aload_n hx hb dX4_reckonWithRegister_78 rfl (lv_at hl 4 rfl) ?_
            refine lv_iload_n hx hb dX4_reckonWithRegister_79 rfl (lv_at hl 5 rfl) ?_
            refine go_i (rn_V (ci := 4) (q0 := 0) X (c_X4_illegal l D q ca nW nB hk E a1) ok_X4_illegal wd_286 ⟨by decide, by decide⟩ hP hD rfl rfl rfl hl.1 rfl (Nat.le_of_ble_eq_true rfl) dX4_reckonWithRegister_80 ⟨Nat.zero_le _, Nat.zero_le _⟩) hP hD hS hA (fun H locs hP hD hS => ?_)
            exact rku_i (v := (f_X4_illegal nW nB E a1).1) (F := (f_X4_reckonWithRegister nW nB E a1)) (E1 := (f_X4_illegal nW nB E a1).2) (by unfold f_X4_reckonWithRegister; rw [if_neg c_1, if_neg c_2, if_pos c_4, if_neg c_5, if_neg c_7]; try rfl) X hP hD hS hAe hr hlk dX4_reckonWithRegister_83
  ·
    refine lv_aload_n hx hb dX4_reckonWithRegister_29 rfl (lv_at hl 4 rfl) ?_
    refine lv_iload_n hx hb dX4_reckonWithRegister_30 rfl (lv_at hl 5 rfl) ?_
    refine lv_iload_n hx hb dX4_reckonWithRegister_31 rfl (lv_at hl 3 rfl) ?_
    refine lv_iconst (v := (4 : Int32)) hx hb dX4_reckonWithRegister_32 (by decide) ?_
    refine lv_icmp_ge (tgt := 47) hx hb dX4_reckonWithRegister_33 (by decide) (fun c_9 => ?_) (fun c_9 => ?_)
    ·
      refine lv_iload_n hx hb dX4_reckonWithRegister_47 rfl (lv_at hl 3 rfl) ?_
      refine lv_iload hx hb dX4_reckonWithRegister_48 (lv_at hl 1 rfl) ?_
      refine lv_iload hx hb dX4_reckonWithRegister_50 (lv_at hl 0 rfl) ?_
      refine go_i (rn_S X (c_X4_divided l D _ _ (f_X4_f a1) (f_X4_a nW nB E a1) (f_X4_b nW nB E a1)) ok_X4_divided wd_385 ⟨by decide, by decide⟩ hP hD rfl hl.1 rfl (Nat.le_of_ble_eq_true rfl) dX4_reckonWithRegister_52 ⟨Nat.zero_le _, Nat.zero_le _⟩) hP hD hS hA (fun H locs hP hD hS => ?_)
      refine go_i (rn_V (ci := 4) (q0 := 0) X (c_X4_retire l D q ca nW nB hk E a1 (f_X4_divided (f_X4_f a1) (f_X4_a nW nB E a1) (f_X4_b nW nB E a1))) ok_X4_retire wd_253 ⟨by decide, by decide⟩ hP hD rfl rfl rfl hl.1 rfl (Nat.le_of_ble_eq_true rfl) dX4_reckonWithRegister_55 ⟨Nat.zero_le _, Nat.zero_le _⟩) hP hD hS hA (fun H locs hP hD hS => ?_)
      exact rku_i (v := (f_X4_retire nW nB E a1 (f_X4_divided (f_X4_f a1) (f_X4_a nW nB E a1) (f_X4_b nW nB E a1))).1) (F := (f_X4_reckonWithRegister nW nB E a1)) (E1 := (f_X4_retire nW nB E a1 (f_X4_divided (f_X4_f a1) (f_X4_a nW nB E a1) (f_X4_b nW nB E a1))).2) (by unfold f_X4_reckonWithRegister; rw [if_pos c_1, if_pos c_9]; try rfl) X hP hD hS hAe hr hlk dX4_reckonWithRegister_58
    ·
      refine lv_iload_n hx hb dX4_reckonWithRegister_36 rfl (lv_at hl 3 rfl) ?_
      refine lv_iload hx hb dX4_reckonWithRegister_37 (lv_at hl 1 rfl) ?_
      refine lv_iload hx hb dX4_reckonWithRegister_39 (lv_at hl 0 rfl) ?_
      refine go_i (rn_S X (c_X4_product l D _ _ (f_X4_f a1) (f_X4_a nW nB E a1) (f_X4_b nW nB E a1)) ok_X4_product wd_381 ⟨by decide, by decide⟩ hP hD rfl hl.1 rfl (Nat.le_of_ble_eq_true rfl) dX4_reckonWithRegister_41 ⟨Nat.zero_le _, Nat.zero_le _⟩) hP hD hS hA (fun H locs hP hD hS => ?_)
      refine lv_goto (tgt := 55) hx hb dX4_reckonWithRegister_44 (by decide) ?_
      refine go_i (rn_V (ci := 4) (q0 := 0) X (c_X4_retire l D q ca nW nB hk E a1 (f_X4_product (f_X4_f a1) (f_X4_a nW nB E a1) (f_X4_b nW nB E a1))) ok_X4_retire wd_253 ⟨by decide, by decide⟩ hP hD rfl rfl rfl hl.1 rfl (Nat.le_of_ble_eq_true rfl) dX4_reckonWithRegister_55 ⟨Nat.zero_le _, Nat.zero_le _⟩) hP hD hS hA (fun H locs hP hD hS => ?_)
      exact rku_i (v := (f_X4_retire nW nB E a1 (f_X4_product (f_X4_f a1) (f_X4_a nW nB E a1) (f_X4_b nW nB E a1))).1) (F := (f_X4_reckonWithRegister nW nB E a1)) (E1 := (f_X4_retire nW nB E a1 (f_X4_product (f_X4_f a1) (f_X4_a nW nB E a1) (f_X4_b nW nB E a1))).2) (by unfold f_X4_reckonWithRegister; rw [if_pos c_1, if_neg c_9]; try rfl) X hP hD hS hAe hr hlk dX4_reckonWithRegister_58
set_option maxHeartbeats 4000000 in
set_option maxRecDepth 100000 in
theorem c_X2_send (l : Launch) (D : va_G) (q : Nat → Nat) (ca : Nat → ClassId) (nW nB : Nat) (hk : KOk nW nB) (E : KS) (a1 : Int32) (hs : ¬ ksent E < 0) : Mt l yX2_send cX2_send 2 (some .boolean) 0 D (tysK ca) [.ref (q 4), .int a1] (cwK q ca nW nB E) (QcI D (cwK q ca nW nB E) (cwK q ca nW nB (f_X2_send nW nB E a1).2) (b2i (f_X2_send nW nB E a1).1)) := by
  refine ent (own := RX2) rfl (by decide) (Nat.le_of_ble_eq_true rfl) ?_
  intro p e s m below meth c A ls X hr hlk hmn hAe hA hP hD hS hl
  have hx := X.1.1
  have hb := X.1.2.1
  have hl : lv_has ls 2 [(0, .ref (q 4)), (1, .int a1)] := hl
  refine lv_aload_n hx hb dX2_send_0 rfl (lv_at hl 0 rfl) ?_
  refine gf_X2_13 X hP dX2_send_1 ?_
  refine lv_aload_n hx hb dX2_send_4 rfl (lv_at hl 0 rfl) ?_
  refine gf_X2_7 X hP dX2_send_5 ?_
  refine klen_5 X hP dX2_send_8 ?_
  refine lv_icmp_lt (tgt := 14) hx hb dX2_send_9 (by decide) (fun c_1 => ?_) (fun c_1 => ?_)
  ·
    refine lv_aload_n hx hb dX2_send_14 rfl (lv_at hl 0 rfl) ?_
    refine gf_X2_7 X hP dX2_send_15 ?_
    refine lv_aload_n hx hb dX2_send_18 rfl (lv_at hl 0 rfl) ?_
    refine gf_X2_13 X hP dX2_send_19 ?_
    refine lv_iload_n hx hb dX2_send_22 rfl (lv_at hl 1 rfl) ?_
    refine lv_i2b (v := (a1).toInt8.toInt32) hx hb dX2_send_23 rfl ?_
    refine kst_5 X hP hD hS (in_of_lt hs c_1 hk.2) dX2_send_24 (fun H locs hP hD hS => ?_)
    refine lv_aload_n hx hb dX2_send_25 rfl (lv_at hl 0 rfl) ?_
    refine lv_dup hx hb dX2_send_26 rfl ?_
    refine gf_X2_13 X hP dX2_send_27 ?_
    refine tw_eqi (y := (ksent E)) (gs_ksent_bytes _ _) ?_
    refine lv_iconst (v := (1 : Int32)) hx hb dX2_send_30 (by decide) ?_
    refine lv_iadd hx hb dX2_send_31 ?_
    refine pf_X2_13 X hP hD hS ((ksent E) + (1 : Int32)) dX2_send_32 (fun H locs hP hD hS => ?_)
    refine lv_iconst (v := (1 : Int32)) hx hb dX2_send_35 (by decide) ?_
    exact rku_z (v := true) (F := (f_X2_send nW nB E a1)) (E1 := (ksent_ (kbytes_ E (upd (kbytes E) ((ksent E)).toNatClampNeg (vp_nar .byte (a1).toInt8.toInt32))) ((ksent E) + (1 : Int32)))) (by unfold f_X2_send; rw [if_pos c_1]; try rfl) X hP hD hS hAe hr hlk dX2_send_36
  ·
    refine lv_iconst (v := (0 : Int32)) hx hb dX2_send_12 (by decide) ?_
    exact rku_z (v := false) (F := (f_X2_send nW nB E a1)) (E1 := E) (by unfold f_X2_send; rw [if_neg c_1]; try rfl) X hP hD hS hAe hr hlk dX2_send_13
set_option maxHeartbeats 4000000 in
set_option maxRecDepth 100000 in
theorem c_X3_withHalf (l : Launch) (D : va_G) (tys : List (ClassId × FieldType)) (ws : va_W) (a1 : Int64) (a2 : Bool) (a3 : Int32) : Mt l yX3_withHalf cX3_withHalf 4 (some .long) 1 D tys [.long a1, .int (b2i a2), .int a3] ws (QcL D ws ws (f_X3_withHalf a1 a2 a3)) := by
  refine ent (own := RX3) rfl (by decide) (Nat.le_of_ble_eq_true rfl) ?_
  intro p e s m below meth c A ls X hr hlk hmn hAe hA hP hD hS hl
  have hx := X.1.1
  have hb := X.1.2.1
  have hl : lv_has ls 4 [(0, .long a1), (2, .int (b2i a2)), (3, .int a3)] := hl
  refine lv_iload_n hx hb dX3_withHalf_0 rfl (lv_at hl 1 rfl) ?_
  refine lv_if_eq (tgt := 18) hx hb dX3_withHalf_1 (by decide) (fun c_1 => ?_) (fun c_1 => ?_)
  ·
    refine lv_lload_n hx hb dX3_withHalf_18 rfl (lv_at hl 0 rfl) ?_
    refine lv_ldc2 (v := (-4294967296 : Int64)) hx hb X.1.2.2.2.1 (X.1.2.2.2.2 _ wd_358) dX3_withHalf_19 ?_
    refine lv_land hx hb dX3_withHalf_22 ?_
    refine lv_iload_n hx hb dX3_withHalf_23 rfl (lv_at hl 2 rfl) ?_
    refine go_l (rn_SN X (c_X4_unsigned l D _ _ a3) ok_X4_unsigned wd_359 ⟨by decide, by decide⟩ hP hD rfl hl.1 rfl (Nat.le_of_ble_eq_true rfl) dX3_withHalf_24 ⟨Nat.zero_le _, Nat.zero_le _⟩) hP hD hS hA (fun H locs hP hD hS => ?_)
    refine lv_lor hx hb dX3_withHalf_27 ?_
    exact rg_l (v := ((a1 &&& (-4294967296 : Int64)) ||| (f_X4_unsigned a3))) (F := (f_X3_withHalf a1 a2 a3)) (by unfold f_X3_withHalf; rw [if_pos c_1]; try rfl) X hP hD hS hAe hr hlk dX3_withHalf_28
  ·
    refine lv_lload_n hx hb dX3_withHalf_4 rfl (lv_at hl 0 rfl) ?_
    refine lv_ldc2 (v := (4294967295 : Int64)) hx hb X.1.2.2.2.1 (X.1.2.2.2.2 _ wd_357) dX3_withHalf_5 ?_
    refine lv_land hx hb dX3_withHalf_8 ?_
    refine lv_iload_n hx hb dX3_withHalf_9 rfl (lv_at hl 2 rfl) ?_
    refine lv_i2l (v := (a3).toInt64) hx hb dX3_withHalf_10 rfl ?_
    refine lv_bipush (v := (32 : Int32)) hx hb dX3_withHalf_11 (by decide) ?_
    refine lv_lshl (v := (jlshl (a3).toInt64 (32 : Int32))) hx hb dX3_withHalf_13 rfl ?_
    refine lv_lor hx hb dX3_withHalf_14 ?_
    refine lv_goto (tgt := 28) hx hb dX3_withHalf_15 (by decide) ?_
    exact rg_l (v := ((a1 &&& (4294967295 : Int64)) ||| (jlshl (a3).toInt64 (32 : Int32)))) (F := (f_X3_withHalf a1 a2 a3)) (by unfold f_X3_withHalf; rw [if_neg c_1]; try rfl) X hP hD hS hAe hr hlk dX3_withHalf_28
set_option maxHeartbeats 4000000 in
set_option maxRecDepth 100000 in
theorem c_X3_setHalf (l : Launch) (D : va_G) (q : Nat → Nat) (ca : Nat → ClassId) (nW nB : Nat) (hk : KOk nW nB) (E : KS) (a1 : Int32) (a2 : Int32) : Mt l yX3_setHalf cX3_setHalf 3 none 2 D (tysK ca) [.ref (q 3), .int a1, .int a2] (cwK q ca nW nB E) (QcV D (cwK q ca nW nB E) (cwK q ca nW nB (f_X3_setHalf nW nB E a1 a2))) := by
  refine ent (own := RX3) rfl (by decide) (Nat.le_of_ble_eq_true rfl) ?_
  intro p e s m below meth c A ls X hr hlk hmn hAe hA hP hD hS hl
  have hx := X.1.1
  have hb := X.1.2.1
  have hl : lv_has ls 3 [(0, .ref (q 3)), (1, .int a1), (2, .int a2)] := hl
  refine lv_iload_n hx hb dX3_setHalf_0 rfl (lv_at hl 1 rfl) ?_
  refine go_i (rn_S X (c_X3_isTime l D _ _ a1) ok_X3_isTime wd_332 ⟨by decide, by decide⟩ hP hD rfl hl.1 rfl (Nat.le_of_ble_eq_true rfl) dX3_setHalf_1 ⟨Nat.zero_le _, Nat.zero_le _⟩) hP hD hS hA (fun H locs hP hD hS => ?_)
  refine lv_if_eq (tgt := 26) hx hb dX3_setHalf_4 (by decide) (fun c_1 => ?_) (fun c_1 => ?_)
  ·
    refine lv_aload_n hx hb dX3_setHalf_26 rfl (lv_at hl 0 rfl) ?_
    refine lv_aload_n hx hb dX3_setHalf_27 rfl (lv_at hl 0 rfl) ?_
    refine gf_X3_15 X hP dX3_setHalf_28 ?_
    refine lv_iload_n hx hb dX3_setHalf_31 rfl (lv_at hl 1 rfl) ?_
    refine go_i (rn_S X (c_X3_isUpper l D _ _ a1) ok_X3_isUpper wd_335 ⟨by decide, by decide⟩ hP hD rfl hl.1 rfl (Nat.le_of_ble_eq_true rfl) dX3_setHalf_32 ⟨Nat.zero_le _, Nat.zero_le _⟩) hP hD hS hA (fun H locs hP hD hS => ?_)
    refine lv_iload_n hx hb dX3_setHalf_35 rfl (lv_at hl 2 rfl) ?_
    refine go_l (rn_S X (c_X3_withHalf l D _ _ (klimit E) (f_X3_isUpper a1) a2) ok_X3_withHalf wd_354 ⟨by decide, by decide⟩ hP hD rfl hl.1 rfl (Nat.le_of_ble_eq_true rfl) dX3_setHalf_36 ⟨Nat.zero_le _, Nat.zero_le _⟩) hP hD hS hA (fun H locs hP hD hS => ?_)
    refine pf_X3_15 X hP hD hS (f_X3_withHalf (klimit E) (f_X3_isUpper a1) a2) dX3_setHalf_39 (fun H locs hP hD hS => ?_)
    exact rku_v (F := (f_X3_setHalf nW nB E a1 a2)) (E1 := (klimit_ E (f_X3_withHalf (klimit E) (f_X3_isUpper a1) a2))) (by unfold f_X3_setHalf; rw [if_pos c_1]; try rfl) X hP hD hS hAe hr hlk dX3_setHalf_42
  ·
    refine lv_aload_n hx hb dX3_setHalf_7 rfl (lv_at hl 0 rfl) ?_
    refine lv_aload_n hx hb dX3_setHalf_8 rfl (lv_at hl 0 rfl) ?_
    refine gf_X3_7 X hP dX3_setHalf_9 ?_
    refine lv_iload_n hx hb dX3_setHalf_12 rfl (lv_at hl 1 rfl) ?_
    refine go_i (rn_S X (c_X3_isUpper l D _ _ a1) ok_X3_isUpper wd_335 ⟨by decide, by decide⟩ hP hD rfl hl.1 rfl (Nat.le_of_ble_eq_true rfl) dX3_setHalf_13 ⟨Nat.zero_le _, Nat.zero_le _⟩) hP hD hS hA (fun H locs hP hD hS => ?_)
    refine lv_iload_n hx hb dX3_setHalf_16 rfl (lv_at hl 2 rfl) ?_
    refine go_l (rn_S X (c_X3_withHalf l D _ _ (ktime E) (f_X3_isUpper a1) a2) ok_X3_withHalf wd_354 ⟨by decide, by decide⟩ hP hD rfl hl.1 rfl (Nat.le_of_ble_eq_true rfl) dX3_setHalf_17 ⟨Nat.zero_le _, Nat.zero_le _⟩) hP hD hS hA (fun H locs hP hD hS => ?_)
    refine pf_X3_7 X hP hD hS (f_X3_withHalf (ktime E) (f_X3_isUpper a1) a2) dX3_setHalf_20 (fun H locs hP hD hS => ?_)
    refine lv_goto (tgt := 42) hx hb dX3_setHalf_23 (by decide) ?_
    exact rku_v (F := (f_X3_setHalf nW nB E a1 a2)) (E1 := (ktime_ E (f_X3_withHalf (ktime E) (f_X3_isUpper a1) a2))) (by unfold f_X3_setHalf; rw [if_neg c_1]; try rfl) X hP hD hS hAe hr hlk dX3_setHalf_42
set_option maxHeartbeats 4000000 in
set_option maxRecDepth 100000 in
theorem c_X4_offsetS (l : Launch) (D : va_G) (tys : List (ClassId × FieldType)) (ws : va_W) (a1 : Int32) : Mt l yX4_offsetS cX4_offsetS 1 (some .int) 0 D tys [.int a1] ws (QcI D ws ws (f_X4_offsetS a1)) := by
  refine ent (own := RX4) rfl (by decide) (Nat.le_of_ble_eq_true rfl) ?_
  intro p e s m below meth c A ls X hr hlk hmn hAe hA hP hD hS hl
  have hx := X.1.1
  have hb := X.1.2.1
  have hl : lv_has ls 1 [(0, .int a1)] := hl
  refine lv_iload_n hx hb dX4_offsetS_0 rfl (lv_at hl 0 rfl) ?_
  refine lv_bipush (v := (25 : Int32)) hx hb dX4_offsetS_1 (by decide) ?_
  refine lv_ishr hx hb dX4_offsetS_3 ?_
  refine lv_iconst (v := (5 : Int32)) hx hb dX4_offsetS_4 (by decide) ?_
  refine lv_ishl hx hb dX4_offsetS_5 ?_
  refine lv_iload_n hx hb dX4_offsetS_6 rfl (lv_at hl 0 rfl) ?_
  refine lv_bipush (v := (7 : Int32)) hx hb dX4_offsetS_7 (by decide) ?_
  refine lv_iushr (v := (jushr a1 (7 : Int32))) hx hb dX4_offsetS_9 rfl ?_
  refine lv_bipush (v := (31 : Int32)) hx hb dX4_offsetS_10 (by decide) ?_
  refine lv_iand hx hb dX4_offsetS_12 ?_
  refine lv_ior hx hb dX4_offsetS_13 ?_
  exact rg_i (v := (((a1 >>> ((25 : Int32) &&& 31)) <<< ((5 : Int32) &&& 31)) ||| ((jushr a1 (7 : Int32)) &&& (31 : Int32)))) (F := (f_X4_offsetS a1)) rfl X hP hD hS hAe hr hlk dX4_offsetS_14
set_option maxHeartbeats 4000000 in
set_option maxRecDepth 100000 in
theorem c_X4_store (l : Launch) (D : va_G) (q : Nat → Nat) (ca : Nat → ClassId) (nW nB : Nat) (hk : KOk nW nB) (E : KS) (a1 : Int32) (hs : ¬ ksent E < 0) : Mt l yX4_store cX4_store 5 (some .int) 3 D (tysK ca) [.ref (q 0), .int a1] (cwK q ca nW nB E) (QcI D (cwK q ca nW nB E) (cwK q ca nW nB (f_X4_store nW nB E a1).2) (f_X4_store nW nB E a1).1) := by
  refine ent (own := RX4) rfl (by decide) (Nat.le_of_ble_eq_true rfl) ?_
  intro p e s m below meth c A ls X hr hlk hmn hAe hA hP hD hS hl
  have hx := X.1.1
  have hb := X.1.2.1
  have hl : lv_has ls 5 [(0, .ref (q 0)), (1, .int a1)] := hl
  refine lv_iload_n hx hb dX4_store_0 rfl (lv_at hl 1 rfl) ?_
  refine go_i (rn_S X (c_X4_f l D _ _ a1) ok_X4_f wd_273 ⟨by decide, by decide⟩ hP hD rfl hl.1 rfl (Nat.le_of_ble_eq_true rfl) dX4_store_1 ⟨Nat.zero_le _, Nat.zero_le _⟩) hP hD hS hA (fun H locs hP hD hS => ?_)
  refine lv_istore_n (lv' := [(2, .int (f_X4_f a1)), (0, .ref (q 0)), (1, .int a1)]) hx hb dX4_store_4 rfl hl (by decide) rfl (fun ls hl => ?_)
  refine lv_iload_n hx hb dX4_store_5 rfl (lv_at hl 0 rfl) ?_
  refine lv_iconst (v := (2 : Int32)) hx hb dX4_store_6 (by decide) ?_
  refine lv_icmp_le (tgt := 16) hx hb dX4_store_7 (by decide) (fun c_1 => ?_) (fun c_1 => ?_)
  ·
    refine lv_iconst (v := (1 : Int32)) hx hb dX4_store_16 (by decide) ?_
    refine lv_iload_n hx hb dX4_store_17 rfl (lv_at hl 0 rfl) ?_
    refine lv_ishl hx hb dX4_store_18 ?_
    refine lv_istore_n (lv' := [(3, .int ((1 : Int32) <<< ((f_X4_f a1) &&& 31))), (2, .int (f_X4_f a1)), (0, .ref (q 0)), (1, .int a1)]) hx hb dX4_store_19 rfl hl (by decide) rfl (fun ls hl => ?_)
    refine lv_aload_n hx hb dX4_store_20 rfl (lv_at hl 2 rfl) ?_
    refine lv_iload_n hx hb dX4_store_21 rfl (lv_at hl 3 rfl) ?_
    refine go_i (rn_V (ci := 4) (q0 := 0) X (c_X4_a l D q ca nW nB hk E a1) ok_X4_a wd_276 ⟨by decide, by decide⟩ hP hD rfl rfl rfl hl.1 rfl (Nat.le_of_ble_eq_true rfl) dX4_store_22 ⟨Nat.zero_le _, Nat.zero_le _⟩) hP hD hS hA (fun H locs hP hD hS => ?_)
    refine lv_iload_n hx hb dX4_store_25 rfl (lv_at hl 3 rfl) ?_
    refine go_i (rn_S X (c_X4_offsetS l D _ _ a1) ok_X4_offsetS wd_347 ⟨by decide, by decide⟩ hP hD rfl hl.1 rfl (Nat.le_of_ble_eq_true rfl) dX4_store_26 ⟨Nat.zero_le _, Nat.zero_le _⟩) hP hD hS hA (fun H locs hP hD hS => ?_)
    refine lv_iadd hx hb dX4_store_29 ?_
    refine lv_istore (lv' := [(4, .int ((f_X4_a nW nB E a1) + (f_X4_offsetS a1))), (3, .int ((1 : Int32) <<< ((f_X4_f a1) &&& 31))), (2, .int (f_X4_f a1)), (0, .ref (q 0)), (1, .int a1)]) hx hb dX4_store_30 hl (by decide) rfl (fun ls hl => ?_)
    refine lv_iload hx hb dX4_store_32 (lv_at hl 0 rfl) ?_
    refine lv_iload_n hx hb dX4_store_34 rfl (lv_at hl 1 rfl) ?_
    refine lv_iconst (v := (1 : Int32)) hx hb dX4_store_35 (by decide) ?_
    refine lv_isub hx hb dX4_store_36 ?_
    refine lv_iand hx hb dX4_store_37 ?_
    refine lv_if_eq (tgt := 50) hx hb dX4_store_38 (by decide) (fun c_2 => ?_) (fun c_2 => ?_)
    ·
      refine lv_aload_n hx hb dX4_store_50 rfl (lv_at hl 3 rfl) ?_
      refine gf_X4_24 X hP dX4_store_51 ?_
      refine lv_iload hx hb dX4_store_54 (lv_at hl 0 rfl) ?_
      refine go_i (rn_V (ci := 1) (q0 := 1) X (c_X1_holds l D q ca nW nB hk E ((f_X4_a nW nB E a1) + (f_X4_offsetS a1))) ok_X1_holds wd_187 ⟨by decide, by decide⟩ hP hD rfl rfl rfl hl.1 rfl (Nat.le_of_ble_eq_true rfl) dX4_store_56 ⟨Nat.zero_le _, Nat.zero_le _⟩) hP hD hS hA (fun H locs hP hD hS => ?_)
      refine lv_if_eq (tgt := 80) hx hb dX4_store_59 (by decide) (fun c_3 => ?_) (fun c_3 => ?_)
      ·
        refine lv_iload_n hx hb dX4_store_80 rfl (lv_at hl 1 rfl) ?_
        refine lv_iconst (v := (4 : Int32)) hx hb dX4_store_81 (by decide) ?_
        refine lv_icmp_ne (tgt := 110) hx hb dX4_store_82 (by decide) (fun c_4 => ?_) (fun c_4 => ?_)
        ·
          refine lv_iload hx hb dX4_store_110 (lv_at hl 0 rfl) ?_
          refine lv_ldc (v := (268435456 : Int32)) hx hb X.1.2.2.2.1 (X.1.2.2.2.2 _ wd_338) dX4_store_112 ?_
          refine lv_icmp_eq (tgt := 126) hx hb dX4_store_114 (by decide) (fun c_5 => ?_) (fun c_5 => ?_)
          ·
            refine lv_aload_n hx hb dX4_store_126 rfl (lv_at hl 3 rfl) ?_
            refine gf_X4_38 X hP dX4_store_127 ?_
            refine lv_aload_n hx hb dX4_store_130 rfl (lv_at hl 3 rfl) ?_
            refine lv_iload_n hx hb dX4_store_131 rfl (lv_at hl 4 rfl) ?_
            refine go_i (rn_V (ci := 4) (q0 := 0) X (c_X4_b l D q ca nW nB hk E a1) ok_X4_b wd_294 ⟨by decide, by decide⟩ hP hD rfl rfl rfl hl.1 rfl (Nat.le_of_ble_eq_true rfl) dX4_store_132 ⟨Nat.zero_le _, Nat.zero_le _⟩) hP hD hS hA (fun H locs hP hD hS => ?_)
            refine go_i (rn_V (ci := 2) (q0 := 4) X (c_X2_send l D q ca nW nB hk E (f_X4_b nW nB E a1) hs) ok_X2_send wd_363 ⟨by decide, by decide⟩ hP hD rfl rfl rfl hl.1 rfl (Nat.le_of_ble_eq_true rfl) dX4_store_135 ⟨Nat.zero_le _, Nat.zero_le _⟩) hP hD hS hA (fun H locs hP hD hS => ?_)
            refine lv_if_ne (tgt := 143) hx hb dX4_store_138 (by decide) (fun c_6 => ?_) (fun c_6 => ?_)
            ·
              refine lv_aload_n hx hb dX4_store_143 rfl (lv_at hl 3 rfl) ?_
              refine lv_aload_n hx hb dX4_store_144 rfl (lv_at hl 3 rfl) ?_
              refine gf_X4_56 X hP dX4_store_145 ?_
              refine lv_iconst (v := (4 : Int32)) hx hb dX4_store_148 (by decide) ?_
              refine lv_iadd hx hb dX4_store_149 ?_
              refine go_i (rn_V (ci := 4) (q0 := 0) X (c_X4_retireAt l D q ca nW nB hk (f_X2_send nW nB E (f_X4_b nW nB E a1)).2 ((kplace (f_X2_send nW nB E (f_X4_b nW nB E a1)).2) + (4 : Int32))) ok_X4_retireAt wd_261 ⟨by decide, by decide⟩ hP hD rfl rfl rfl hl.1 rfl (Nat.le_of_ble_eq_true rfl) dX4_store_150 ⟨Nat.zero_le _, Nat.zero_le _⟩) hP hD hS hA (fun H locs hP hD hS => ?_)
              exact rku_i (v := (f_X4_retireAt nW nB (f_X2_send nW nB E (f_X4_b nW nB E a1)).2 ((kplace (f_X2_send nW nB E (f_X4_b nW nB E a1)).2) + (4 : Int32))).1) (F := (f_X4_store nW nB E a1)) (E1 := (f_X4_retireAt nW nB (f_X2_send nW nB E (f_X4_b nW nB E a1)).2 ((kplace (f_X2_send nW nB E (f_X4_b nW nB E a1)).2) + (4 : Int32))).2) (by unfold f_X4_store; rw [if_pos c_1, if_pos c_2, if_pos c_3, if_neg c_4, if_pos c_5, if_neg c_6]; try rfl) X hP hD hS hAe hr hlk dX4_store_153
            ·
              refine lv_iconst (v := (4 : Int32)) hx hb dX4_store_141 (by decide) ?_
              exact rku_i (v := (4 : Int32)) (F := (f_X4_store nW nB E a1)) (E1 := (f_X2_send nW nB E (f_X4_b nW nB E a1)).2) (by unfold f_X4_store; rw [if_pos c_1, if_pos c_2, if_pos c_3, if_neg c_4, if_pos c_5, if_pos c_6]; try rfl) X hP hD hS hAe hr hlk dX4_store_142
          ·
            refine lv_aload_n hx hb dX4_store_117 rfl (lv_at hl 3 rfl) ?_
            refine lv_bipush (v := (7 : Int32)) hx hb dX4_store_118 (by decide) ?_
            refine lv_iload hx hb dX4_store_120 (lv_at hl 0 rfl) ?_
            refine go_i (rn_V (ci := 4) (q0 := 0) X (c_X4_trap l D q ca nW nB hk E (7 : Int32) ((f_X4_a nW nB E a1) + (f_X4_offsetS a1))) ok_X4_trap wd_249 ⟨by decide, by decide⟩ hP hD rfl rfl rfl hl.1 rfl (Nat.le_of_ble_eq_true rfl) dX4_store_122 ⟨Nat.zero_le _, Nat.zero_le _⟩) hP hD hS hA (fun H locs hP hD hS => ?_)
            exact rku_i (v := (f_X4_trap nW nB E (7 : Int32) ((f_X4_a nW nB E a1) + (f_X4_offsetS a1))).1) (F := (f_X4_store nW nB E a1)) (E1 := (f_X4_trap nW nB E (7 : Int32) ((f_X4_a nW nB E a1) + (f_X4_offsetS a1))).2) (by unfold f_X4_store; rw [if_pos c_1, if_pos c_2, if_pos c_3, if_neg c_4, if_neg c_5]; try rfl) X hP hD hS hAe hr hlk dX4_store_125
        ·
          refine lv_iload hx hb dX4_store_85 (lv_at hl 0 rfl) ?_
          refine go_i (rn_S X (c_X3_holds l D _ _ ((f_X4_a nW nB E a1) + (f_X4_offsetS a1))) ok_X3_holds wd_321 ⟨by decide, by decide⟩ hP hD rfl hl.1 rfl (Nat.le_of_ble_eq_true rfl) dX4_store_87 ⟨Nat.zero_le _, Nat.zero_le _⟩) hP hD hS hA (fun H locs hP hD hS => ?_)
          refine lv_if_eq (tgt := 110) hx hb dX4_store_90 (by decide) (fun c_7 => ?_) (fun c_7 => ?_)
          ·
            refine lv_iload hx hb dX4_store_110 (lv_at hl 0 rfl) ?_
            refine lv_ldc (v := (268435456 : Int32)) hx hb X.1.2.2.2.1 (X.1.2.2.2.2 _ wd_338) dX4_store_112 ?_
            refine lv_icmp_eq (tgt := 126) hx hb dX4_store_114 (by decide) (fun c_8 => ?_) (fun c_8 => ?_)
            ·
              refine lv_aload_n hx hb dX4_store_126 rfl (lv_at hl 3 rfl) ?_
              refine gf_X4_38 X hP dX4_store_127 ?_
              refine lv_aload_n hx hb dX4_store_130 rfl (lv_at hl 3 rfl) ?_
              refine lv_iload_n hx hb dX4_store_131 rfl (lv_at hl 4 rfl) ?_
              refine go_i (rn_V (ci := 4) (q0 := 0) X (c_X4_b l D q ca nW nB hk E a1) ok_X4_b wd_294 ⟨by decide, by decide⟩ hP hD rfl rfl rfl hl.1 rfl (Nat.le_of_ble_eq_true rfl) dX4_store_132 ⟨Nat.zero_le _, Nat.zero_le _⟩) hP hD hS hA (fun H locs hP hD hS => ?_)
              refine go_i (rn_V (ci := 2) (q0 := 4) X (c_X2_send l D q ca nW nB hk E (f_X4_b nW nB E a1) hs) ok_X2_send wd_363 ⟨by decide, by decide⟩ hP hD rfl rfl rfl hl.1 rfl (Nat.le_of_ble_eq_true rfl) dX4_store_135 ⟨Nat.zero_le _, Nat.zero_le _⟩) hP hD hS hA (fun H locs hP hD hS => ?_)
              refine lv_if_ne (tgt := 143) hx hb dX4_store_138 (by decide) (fun c_9 => ?_) (fun c_9 => ?_)
              ·
                refine lv_aload_n hx hb dX4_store_143 rfl (lv_at hl 3 rfl) ?_
                refine lv_aload_n hx hb dX4_store_144 rfl (lv_at hl 3 rfl) ?_
                refine gf_X4_56 X hP dX4_store_145 ?_
                refine lv_iconst (v := (4 : Int32)) hx hb dX4_store_148 (by decide) ?_
                refine lv_iadd hx hb dX4_store_149 ?_
                refine go_i (rn_V (ci := 4) (q0 := 0) X (c_X4_retireAt l D q ca nW nB hk (f_X2_send nW nB E (f_X4_b nW nB E a1)).2 ((kplace (f_X2_send nW nB E (f_X4_b nW nB E a1)).2) + (4 : Int32))) ok_X4_retireAt wd_261 ⟨by decide, by decide⟩ hP hD rfl rfl rfl hl.1 rfl (Nat.le_of_ble_eq_true rfl) dX4_store_150 ⟨Nat.zero_le _, Nat.zero_le _⟩) hP hD hS hA (fun H locs hP hD hS => ?_)
                exact rku_i (v := (f_X4_retireAt nW nB (f_X2_send nW nB E (f_X4_b nW nB E a1)).2 ((kplace (f_X2_send nW nB E (f_X4_b nW nB E a1)).2) + (4 : Int32))).1) (F := (f_X4_store nW nB E a1)) (E1 := (f_X4_retireAt nW nB (f_X2_send nW nB E (f_X4_b nW nB E a1)).2 ((kplace (f_X2_send nW nB E (f_X4_b nW nB E a1)).2) + (4 : Int32))).2) (by unfold f_X4_store; rw [if_pos c_1, if_pos c_2, if_pos c_3, if_pos c_4, if_pos c_7, if_pos c_8, if_neg c_9]; try rfl) X hP hD hS hAe hr hlk dX4_store_153
              ·
                refine lv_iconst (v := (4 : Int32)) hx hb dX4_store_141 (by decide) ?_
                exact rku_i (v := (4 : Int32)) (F := (f_X4_store nW nB E a1)) (E1 := (f_X2_send nW nB E (f_X4_b nW nB E a1)).2) (by unfold f_X4_store; rw [if_pos c_1, if_pos c_2, if_pos c_3, if_pos c_4, if_pos c_7, if_pos c_8, if_pos c_9]; try rfl) X hP hD hS hAe hr hlk dX4_store_142
            ·
              refine lv_aload_n hx hb dX4_store_117 rfl (lv_at hl 3 rfl) ?_
              refine lv_bipush (v := (7 : Int32)) hx hb dX4_store_118 (by decide) ?_
              refine lv_iload hx hb dX4_store_120 (lv_at hl 0 rfl) ?_
              refine go_i (rn_V (ci := 4) (q0 := 0) X (c_X4_trap l D q ca nW nB hk E (7 : Int32) ((f_X4_a nW nB E a1) + (f_X4_offsetS a1))) ok_X4_trap wd_249 ⟨by decide, by decide⟩ hP hD rfl rfl rfl hl.1 rfl (Nat.le_of_ble_eq_true rfl) dX4_store_122 ⟨Nat.zero_le _, Nat.zero_le _⟩) hP hD hS hA (fun H locs hP hD hS => ?_)
              exact rku_i (v := (f_X4_trap nW nB E (7 : Int32) ((f_X4_a nW nB E a1) + (f_X4_offsetS a1))).1) (F := (f_X4_store nW nB E a1)) (E1 := (f_X4_trap nW nB E (7 : Int32) ((f_X4_a nW nB E a1) + (f_X4_offsetS a1))).2) (by unfold f_X4_store; rw [if_pos c_1, if_pos c_2, if_pos c_3, if_pos c_4, if_pos c_7, if_neg c_8]; try rfl) X hP hD hS hAe hr hlk dX4_store_125
          ·
            refine lv_aload_n hx hb dX4_store_93 rfl (lv_at hl 3 rfl) ?_
            refine gf_X4_31 X hP dX4_store_94 ?_
            refine lv_iload hx hb dX4_store_97 (lv_at hl 0 rfl) ?_
            refine lv_aload_n hx hb dX4_store_99 rfl (lv_at hl 3 rfl) ?_
            refine lv_iload_n hx hb dX4_store_100 rfl (lv_at hl 4 rfl) ?_
            refine go_i (rn_V (ci := 4) (q0 := 0) X (c_X4_b l D q ca nW nB hk E a1) ok_X4_b wd_294 ⟨by decide, by decide⟩ hP hD rfl rfl rfl hl.1 rfl (Nat.le_of_ble_eq_true rfl) dX4_store_101 ⟨Nat.zero_le _, Nat.zero_le _⟩) hP hD hS hA (fun H locs hP hD hS => ?_)
            refine go_v (rn_V (ci := 3) (q0 := 3) X (c_X3_setHalf l D q ca nW nB hk E ((f_X4_a nW nB E a1) + (f_X4_offsetS a1)) (f_X4_b nW nB E a1)) ok_X3_setHalf wd_350 ⟨by decide, by decide⟩ hP hD rfl rfl rfl hl.1 rfl (Nat.le_of_ble_eq_true rfl) dX4_store_104 ⟨Nat.zero_le _, Nat.zero_le _⟩) hP hD hS hA (fun H locs hP hD hS => ?_)
            refine lv_goto (tgt := 143) hx hb dX4_store_107 (by decide) ?_
            refine lv_aload_n hx hb dX4_store_143 rfl (lv_at hl 3 rfl) ?_
            refine lv_aload_n hx hb dX4_store_144 rfl (lv_at hl 3 rfl) ?_
            refine gf_X4_56 X hP dX4_store_145 ?_
            refine lv_iconst (v := (4 : Int32)) hx hb dX4_store_148 (by decide) ?_
            refine lv_iadd hx hb dX4_store_149 ?_
            refine go_i (rn_V (ci := 4) (q0 := 0) X (c_X4_retireAt l D q ca nW nB hk (f_X3_setHalf nW nB E ((f_X4_a nW nB E a1) + (f_X4_offsetS a1)) (f_X4_b nW nB E a1)) ((kplace (f_X3_setHalf nW nB E ((f_X4_a nW nB E a1) + (f_X4_offsetS a1)) (f_X4_b nW nB E a1))) + (4 : Int32))) ok_X4_retireAt wd_261 ⟨by decide, by decide⟩ hP hD rfl rfl rfl hl.1 rfl (Nat.le_of_ble_eq_true rfl) dX4_store_150 ⟨Nat.zero_le _, Nat.zero_le _⟩) hP hD hS hA (fun H locs hP hD hS => ?_)
            exact rku_i (v := (f_X4_retireAt nW nB (f_X3_setHalf nW nB E ((f_X4_a nW nB E a1) + (f_X4_offsetS a1)) (f_X4_b nW nB E a1)) ((kplace (f_X3_setHalf nW nB E ((f_X4_a nW nB E a1) + (f_X4_offsetS a1)) (f_X4_b nW nB E a1))) + (4 : Int32))).1) (F := (f_X4_store nW nB E a1)) (E1 := (f_X4_retireAt nW nB (f_X3_setHalf nW nB E ((f_X4_a nW nB E a1) + (f_X4_offsetS a1)) (f_X4_b nW nB E a1)) ((kplace (f_X3_setHalf nW nB E ((f_X4_a nW nB E a1) + (f_X4_offsetS a1)) (f_X4_b nW nB E a1))) + (4 : Int32))).2) (by unfold f_X4_store; rw [if_pos c_1, if_pos c_2, if_pos c_3, if_pos c_4, if_neg c_7]; try rfl) X hP hD hS hAe hr hlk dX4_store_153
      ·
        refine lv_aload_n hx hb dX4_store_62 rfl (lv_at hl 3 rfl) ?_
        refine gf_X4_24 X hP dX4_store_63 ?_
        refine lv_iload hx hb dX4_store_66 (lv_at hl 0 rfl) ?_
        refine lv_iload_n hx hb dX4_store_68 rfl (lv_at hl 1 rfl) ?_
        refine lv_aload_n hx hb dX4_store_69 rfl (lv_at hl 3 rfl) ?_
        refine lv_iload_n hx hb dX4_store_70 rfl (lv_at hl 4 rfl) ?_
        refine go_i (rn_V (ci := 4) (q0 := 0) X (c_X4_b l D q ca nW nB hk E a1) ok_X4_b wd_294 ⟨by decide, by decide⟩ hP hD rfl rfl rfl hl.1 rfl (Nat.le_of_ble_eq_true rfl) dX4_store_71 ⟨Nat.zero_le _, Nat.zero_le _⟩) hP hD hS hA (fun H locs hP hD hS => ?_)
        refine go_v (rn_V (ci := 1) (q0 := 1) X (c_X1_put l D q ca nW nB hk E ((f_X4_a nW nB E a1) + (f_X4_offsetS a1)) ((1 : Int32) <<< ((f_X4_f a1) &&& 31)) (f_X4_b nW nB E a1) (in_of_holds hk c_3)) ok_X1_put wd_191 ⟨by decide, by decide⟩ hP hD rfl rfl rfl hl.1 rfl (Nat.le_of_ble_eq_true rfl) dX4_store_74 ⟨Nat.zero_le _, Nat.zero_le _⟩) hP hD hS hA (fun H locs hP hD hS => ?_)
        refine lv_goto (tgt := 143) hx hb dX4_store_77 (by decide) ?_
        refine lv_aload_n hx hb dX4_store_143 rfl (lv_at hl 3 rfl) ?_
        refine lv_aload_n hx hb dX4_store_144 rfl (lv_at hl 3 rfl) ?_
        refine gf_X4_56 X hP dX4_store_145 ?_
        refine lv_iconst (v := (4 : Int32)) hx hb dX4_store_148 (by decide) ?_
        refine lv_iadd hx hb dX4_store_149 ?_
        refine go_i (rn_V (ci := 4) (q0 := 0) X (c_X4_retireAt l D q ca nW nB hk (f_X1_put nW nB E ((f_X4_a nW nB E a1) + (f_X4_offsetS a1)) ((1 : Int32) <<< ((f_X4_f a1) &&& 31)) (f_X4_b nW nB E a1)) ((kplace (f_X1_put nW nB E ((f_X4_a nW nB E a1) + (f_X4_offsetS a1)) ((1 : Int32) <<< ((f_X4_f a1) &&& 31)) (f_X4_b nW nB E a1))) + (4 : Int32))) ok_X4_retireAt wd_261 ⟨by decide, by decide⟩ hP hD rfl rfl rfl hl.1 rfl (Nat.le_of_ble_eq_true rfl) dX4_store_150 ⟨Nat.zero_le _, Nat.zero_le _⟩) hP hD hS hA (fun H locs hP hD hS => ?_)
        exact rku_i (v := (f_X4_retireAt nW nB (f_X1_put nW nB E ((f_X4_a nW nB E a1) + (f_X4_offsetS a1)) ((1 : Int32) <<< ((f_X4_f a1) &&& 31)) (f_X4_b nW nB E a1)) ((kplace (f_X1_put nW nB E ((f_X4_a nW nB E a1) + (f_X4_offsetS a1)) ((1 : Int32) <<< ((f_X4_f a1) &&& 31)) (f_X4_b nW nB E a1))) + (4 : Int32))).1) (F := (f_X4_store nW nB E a1)) (E1 := (f_X4_retireAt nW nB (f_X1_put nW nB E ((f_X4_a nW nB E a1) + (f_X4_offsetS a1)) ((1 : Int32) <<< ((f_X4_f a1) &&& 31)) (f_X4_b nW nB E a1)) ((kplace (f_X1_put nW nB E ((f_X4_a nW nB E a1) + (f_X4_offsetS a1)) ((1 : Int32) <<< ((f_X4_f a1) &&& 31)) (f_X4_b nW nB E a1))) + (4 : Int32))).2) (by unfold f_X4_store; rw [if_pos c_1, if_pos c_2, if_neg c_3]; try rfl) X hP hD hS hAe hr hlk dX4_store_153
    ·
      refine lv_aload_n hx hb dX4_store_41 rfl (lv_at hl 3 rfl) ?_
      refine lv_bipush (v := (6 : Int32)) hx hb dX4_store_42 (by decide) ?_
      refine lv_iload hx hb dX4_store_44 (lv_at hl 0 rfl) ?_
      refine go_i (rn_V (ci := 4) (q0 := 0) X (c_X4_trap l D q ca nW nB hk E (6 : Int32) ((f_X4_a nW nB E a1) + (f_X4_offsetS a1))) ok_X4_trap wd_249 ⟨by decide, by decide⟩ hP hD rfl rfl rfl hl.1 rfl (Nat.le_of_ble_eq_true rfl) dX4_store_46 ⟨Nat.zero_le _, Nat.zero_le _⟩) hP hD hS hA (fun H locs hP hD hS => ?_)
      exact rku_i (v := (f_X4_trap nW nB E (6 : Int32) ((f_X4_a nW nB E a1) + (f_X4_offsetS a1))).1) (F := (f_X4_store nW nB E a1)) (E1 := (f_X4_trap nW nB E (6 : Int32) ((f_X4_a nW nB E a1) + (f_X4_offsetS a1))).2) (by unfold f_X4_store; rw [if_pos c_1, if_neg c_2]; try rfl) X hP hD hS hAe hr hlk dX4_store_49
  ·
    refine lv_aload_n hx hb dX4_store_10 rfl (lv_at hl 1 rfl) ?_
    refine lv_iload_n hx hb dX4_store_11 rfl (lv_at hl 2 rfl) ?_
    refine go_i (rn_V (ci := 4) (q0 := 0) X (c_X4_illegal l D q ca nW nB hk E a1) ok_X4_illegal wd_286 ⟨by decide, by decide⟩ hP hD rfl rfl rfl hl.1 rfl (Nat.le_of_ble_eq_true rfl) dX4_store_12 ⟨Nat.zero_le _, Nat.zero_le _⟩) hP hD hS hA (fun H locs hP hD hS => ?_)
    exact rku_i (v := (f_X4_illegal nW nB E a1).1) (F := (f_X4_store nW nB E a1)) (E1 := (f_X4_illegal nW nB E a1).2) (by unfold f_X4_store; rw [if_neg c_1]; try rfl) X hP hD hS hAe hr hlk dX4_store_15
set_option maxHeartbeats 4000000 in
set_option maxRecDepth 100000 in
theorem c_X0_leave (l : Launch) (D : va_G) (q : Nat → Nat) (ca : Nat → ClassId) (nW nB : Nat) (hk : KOk nW nB) (E : KS) : Mt l yX0_leave cX0_leave 1 (some .int) 0 D (tysK ca) [.ref (q 6)] (cwK q ca nW nB E) (QcI D (cwK q ca nW nB E) (cwK q ca nW nB (f_X0_leave nW nB E).2) (f_X0_leave nW nB E).1) := by
  refine ent (own := RX0) rfl (by decide) (Nat.le_of_ble_eq_true rfl) ?_
  intro p e s m below meth c A ls X hr hlk hmn hAe hA hP hD hS hl
  have hx := X.1.1
  have hb := X.1.2.1
  have hl : lv_has ls 1 [(0, .ref (q 6))] := hl
  refine lv_aload_n hx hb dX0_leave_0 rfl (lv_at hl 0 rfl) ?_
  refine lv_aload_n hx hb dX0_leave_1 rfl (lv_at hl 0 rfl) ?_
  refine gf_X0_13 X hP dX0_leave_2 ?_
  refine pf_X0_7 X hP hD hS (kwas E) dX0_leave_5 (fun H locs hP hD hS => ?_)
  refine lv_aload_n hx hb dX0_leave_8 rfl (lv_at hl 0 rfl) ?_
  refine lv_iconst (v := (1 : Int32)) hx hb dX0_leave_9 (by decide) ?_
  refine pf_X0_13 X hP hD hS true dX0_leave_10 (fun H locs hP hD hS => ?_)
  refine lv_aload_n hx hb dX0_leave_13 rfl (lv_at hl 0 rfl) ?_
  refine gf_X0_26 X hP dX0_leave_14 ?_
  refine tw_eqi (y := (kback E)) (Eq.trans (gs_kback_was _ _) (gs_kback_on _ _)) ?_
  exact rku_i (v := (kback E)) (F := (f_X0_leave nW nB E)) (E1 := (kwas_ (kon_ E (kwas E)) true)) rfl X hP hD hS hAe hr hlk dX0_leave_17
set_option maxHeartbeats 4000000 in
set_option maxRecDepth 100000 in
theorem c_X4_system (l : Launch) (D : va_G) (q : Nat → Nat) (ca : Nat → ClassId) (nW nB : Nat) (hk : KOk nW nB) (E : KS) (a1 : Int32) : Mt l yX4_system cX4_system 2 (some .int) 3 D (tysK ca) [.ref (q 0), .int a1] (cwK q ca nW nB E) (QcI D (cwK q ca nW nB E) (cwK q ca nW nB (f_X4_system nW nB E a1).2) (f_X4_system nW nB E a1).1) := by
  refine ent (own := RX4) rfl (by decide) (Nat.le_of_ble_eq_true rfl) ?_
  intro p e s m below meth c A ls X hr hlk hmn hAe hA hP hD hS hl
  have hx := X.1.1
  have hb := X.1.2.1
  have hl : lv_has ls 2 [(0, .ref (q 0)), (1, .int a1)] := hl
  refine lv_iload_n hx hb dX4_system_0 rfl (lv_at hl 1 rfl) ?_
  by_cases c_1 : a1 = (115 : Int32)
  ·
    refine lv_lookup (off := 43) (tgt := 44) hx hb dX4_system_1 (by decide) (by rw [c_1]; decide) (by decide) ?_
    refine lv_aload_n hx hb dX4_system_44 rfl (lv_at hl 0 rfl) ?_
    refine lv_bipush (v := (11 : Int32)) hx hb dX4_system_45 (by decide) ?_
    refine lv_iconst (v := (0 : Int32)) hx hb dX4_system_47 (by decide) ?_
    refine go_i (rn_V (ci := 4) (q0 := 0) X (c_X4_trap l D q ca nW nB hk E (11 : Int32) (0 : Int32)) ok_X4_trap wd_249 ⟨by decide, by decide⟩ hP hD rfl rfl rfl hl.1 rfl (Nat.le_of_ble_eq_true rfl) dX4_system_48 ⟨Nat.zero_le _, Nat.zero_le _⟩) hP hD hS hA (fun H locs hP hD hS => ?_)
    exact rku_i (v := (f_X4_trap nW nB E (11 : Int32) (0 : Int32)).1) (F := (f_X4_system nW nB E a1)) (E1 := (f_X4_trap nW nB E (11 : Int32) (0 : Int32)).2) (by unfold f_X4_system; rw [if_pos c_1]; try rfl) X hP hD hS hAe hr hlk dX4_system_51
  by_cases c_2 : a1 = (1048691 : Int32)
  ·
    refine lv_lookup (off := 51) (tgt := 52) hx hb dX4_system_1 (by decide) (by rw [c_2]; decide) (by decide) ?_
    refine lv_aload_n hx hb dX4_system_52 rfl (lv_at hl 0 rfl) ?_
    refine lv_iconst (v := (3 : Int32)) hx hb dX4_system_53 (by decide) ?_
    refine lv_aload_n hx hb dX4_system_54 rfl (lv_at hl 0 rfl) ?_
    refine gf_X4_56 X hP dX4_system_55 ?_
    refine go_i (rn_V (ci := 4) (q0 := 0) X (c_X4_trap l D q ca nW nB hk E (3 : Int32) (kplace E)) ok_X4_trap wd_249 ⟨by decide, by decide⟩ hP hD rfl rfl rfl hl.1 rfl (Nat.le_of_ble_eq_true rfl) dX4_system_58 ⟨Nat.zero_le _, Nat.zero_le _⟩) hP hD hS hA (fun H locs hP hD hS => ?_)
    exact rku_i (v := (f_X4_trap nW nB E (3 : Int32) (kplace E)).1) (F := (f_X4_system nW nB E a1)) (E1 := (f_X4_trap nW nB E (3 : Int32) (kplace E)).2) (by unfold f_X4_system; rw [if_neg c_1, if_pos c_2]; try rfl) X hP hD hS hAe hr hlk dX4_system_61
  by_cases c_3 : a1 = (273678451 : Int32)
  ·
    refine lv_lookup (off := 73) (tgt := 74) hx hb dX4_system_1 (by decide) (by rw [c_3]; decide) (by decide) ?_
    refine lv_aload_n hx hb dX4_system_74 rfl (lv_at hl 0 rfl) ?_
    refine lv_iconst (v := (1 : Int32)) hx hb dX4_system_75 (by decide) ?_
    refine pf_X4_60 X hP hD hS true dX4_system_76 (fun H locs hP hD hS => ?_)
    refine lv_aload_n hx hb dX4_system_79 rfl (lv_at hl 0 rfl) ?_
    refine lv_aload_n hx hb dX4_system_80 rfl (lv_at hl 0 rfl) ?_
    refine gf_X4_56 X hP dX4_system_81 ?_
    refine tw_eqi (y := (kplace E)) (gs_kplace_waiting _ _) ?_
    refine lv_iconst (v := (4 : Int32)) hx hb dX4_system_84 (by decide) ?_
    refine lv_iadd hx hb dX4_system_85 ?_
    refine go_i (rn_V (ci := 4) (q0 := 0) X (c_X4_retireAt l D q ca nW nB hk (kwaiting_ E true) ((kplace E) + (4 : Int32))) ok_X4_retireAt wd_261 ⟨by decide, by decide⟩ hP hD rfl rfl rfl hl.1 rfl (Nat.le_of_ble_eq_true rfl) dX4_system_86 ⟨Nat.zero_le _, Nat.zero_le _⟩) hP hD hS hA (fun H locs hP hD hS => ?_)
    exact rku_i (v := (f_X4_retireAt nW nB (kwaiting_ E true) ((kplace E) + (4 : Int32))).1) (F := (f_X4_system nW nB E a1)) (E1 := (f_X4_retireAt nW nB (kwaiting_ E true) ((kplace E) + (4 : Int32))).2) (by unfold f_X4_system; rw [if_neg c_1, if_neg c_2, if_pos c_3]; try rfl) X hP hD hS hAe hr hlk dX4_system_89
  by_cases c_4 : a1 = (807403635 : Int32)
  ·
    refine lv_lookup (off := 61) (tgt := 62) hx hb dX4_system_1 (by decide) (by rw [c_4]; decide) (by decide) ?_
    refine lv_aload_n hx hb dX4_system_62 rfl (lv_at hl 0 rfl) ?_
    refine lv_aload_n hx hb dX4_system_63 rfl (lv_at hl 0 rfl) ?_
    refine gf_X4_45 X hP dX4_system_64 ?_
    refine go_i (rn_V (ci := 0) (q0 := 6) X (c_X0_leave l D q ca nW nB hk E ) ok_X0_leave wd_392 ⟨by decide, by decide⟩ hP hD rfl rfl rfl hl.1 rfl (Nat.le_of_ble_eq_true rfl) dX4_system_67 ⟨Nat.zero_le _, Nat.zero_le _⟩) hP hD hS hA (fun H locs hP hD hS => ?_)
    refine go_i (rn_V (ci := 4) (q0 := 0) X (c_X4_retireAt l D q ca nW nB hk (f_X0_leave nW nB E).2 (f_X0_leave nW nB E).1) ok_X4_retireAt wd_261 ⟨by decide, by decide⟩ hP hD rfl rfl rfl hl.1 rfl (Nat.le_of_ble_eq_true rfl) dX4_system_70 ⟨Nat.zero_le _, Nat.zero_le _⟩) hP hD hS hA (fun H locs hP hD hS => ?_)
    exact rku_i (v := (f_X4_retireAt nW nB (f_X0_leave nW nB E).2 (f_X0_leave nW nB E).1).1) (F := (f_X4_system nW nB E a1)) (E1 := (f_X4_retireAt nW nB (f_X0_leave nW nB E).2 (f_X0_leave nW nB E).1).2) (by unfold f_X4_system; rw [if_neg c_1, if_neg c_2, if_neg c_3, if_pos c_4]; try rfl) X hP hD hS hAe hr hlk dX4_system_73
  refine lv_lookup (off := 89) (tgt := 90) hx hb dX4_system_1 (by decide) ((lv_osw c_1 (by decide)).trans ((lv_osw c_2 (by decide)).trans ((lv_osw c_3 (by decide)).trans ((lv_osw c_4 (by decide)).trans rfl)))) (by decide) ?_
  refine lv_aload_n hx hb dX4_system_90 rfl (lv_at hl 0 rfl) ?_
  refine lv_iload_n hx hb dX4_system_91 rfl (lv_at hl 1 rfl) ?_
  refine go_i (rn_V (ci := 4) (q0 := 0) X (c_X4_illegal l D q ca nW nB hk E a1) ok_X4_illegal wd_286 ⟨by decide, by decide⟩ hP hD rfl rfl rfl hl.1 rfl (Nat.le_of_ble_eq_true rfl) dX4_system_92 ⟨Nat.zero_le _, Nat.zero_le _⟩) hP hD hS hA (fun H locs hP hD hS => ?_)
  exact rku_i (v := (f_X4_illegal nW nB E a1).1) (F := (f_X4_system nW nB E a1)) (E1 := (f_X4_illegal nW nB E a1).2) (by unfold f_X4_system; rw [if_neg c_1, if_neg c_2, if_neg c_3, if_neg c_4]; try rfl) X hP hD hS hAe hr hlk dX4_system_95
set_option maxHeartbeats 4000000 in
set_option maxRecDepth 100000 in
theorem c_X4_instruct (l : Launch) (D : va_G) (q : Nat → Nat) (ca : Nat → ClassId) (nW nB : Nat) (hk : KOk nW nB) (E : KS) (hs : ¬ ksent E < 0) : Mt l yX4_instruct cX4_instruct 2 (some .int) 5 D (tysK ca) [.ref (q 0)] (cwK q ca nW nB E) (QcI D (cwK q ca nW nB E) (cwK q ca nW nB (f_X4_instruct nW nB E).2) (f_X4_instruct nW nB E).1) := by
  refine ent (own := RX4) rfl (by decide) (Nat.le_of_ble_eq_true rfl) ?_
  intro p e s m below meth c A ls X hr hlk hmn hAe hA hP hD hS hl
  have hx := X.1.1
  have hb := X.1.2.1
  have hl : lv_has ls 2 [(0, .ref (q 0))] := hl
  refine lv_aload_n hx hb dX4_instruct_0 rfl (lv_at hl 0 rfl) ?_
  refine gf_X4_24 X hP dX4_instruct_1 ?_
  refine lv_aload_n hx hb dX4_instruct_4 rfl (lv_at hl 0 rfl) ?_
  refine gf_X4_56 X hP dX4_instruct_5 ?_
  refine go_i (rn_V (ci := 1) (q0 := 1) X (c_X1_holds l D q ca nW nB hk E (kplace E)) ok_X1_holds wd_187 ⟨by decide, by decide⟩ hP hD rfl rfl rfl hl.1 rfl (Nat.le_of_ble_eq_true rfl) dX4_instruct_8 ⟨Nat.zero_le _, Nat.zero_le _⟩) hP hD hS hA (fun H locs hP hD hS => ?_)
  refine lv_if_ne (tgt := 24) hx hb dX4_instruct_11 (by decide) (fun c_1 => ?_) (fun c_1 => ?_)
  ·
    refine lv_aload_n hx hb dX4_instruct_24 rfl (lv_at hl 0 rfl) ?_
    refine gf_X4_24 X hP dX4_instruct_25 ?_
    refine lv_aload_n hx hb dX4_instruct_28 rfl (lv_at hl 0 rfl) ?_
    refine gf_X4_56 X hP dX4_instruct_29 ?_
    refine lv_iconst (v := (4 : Int32)) hx hb dX4_instruct_32 (by decide) ?_
    refine go_i (rn_V (ci := 1) (q0 := 1) X (c_X1_get l D q ca nW nB hk E (kplace E) (4 : Int32) (in_of_holds hk c_1)) ok_X1_get wd_209 ⟨by decide, by decide⟩ hP hD rfl rfl rfl hl.1 rfl (Nat.le_of_ble_eq_true rfl) dX4_instruct_33 ⟨Nat.zero_le _, Nat.zero_le _⟩) hP hD hS hA (fun H locs hP hD hS => ?_)
    refine lv_istore_n (lv' := [(1, .int (f_X1_get nW nB E (kplace E) (4 : Int32))), (0, .ref (q 0))]) hx hb dX4_instruct_36 rfl hl (by decide) rfl (fun ls hl => ?_)
    refine lv_iload_n hx hb dX4_instruct_37 rfl (lv_at hl 0 rfl) ?_
    refine lv_bipush (v := (127 : Int32)) hx hb dX4_instruct_38 (by decide) ?_
    refine lv_iand hx hb dX4_instruct_40 ?_
    by_cases c_2 : ((f_X1_get nW nB E (kplace E) (4 : Int32)) &&& (127 : Int32)) = (3 : Int32)
    ·
      refine lv_lookup (off := 181) (tgt := 222) hx hb dX4_instruct_41 (by decide) (by rw [c_2]; decide) (by decide) ?_
      refine lv_aload_n hx hb dX4_instruct_222 rfl (lv_at hl 1 rfl) ?_
      refine lv_iload_n hx hb dX4_instruct_223 rfl (lv_at hl 0 rfl) ?_
      refine go_i (rn_V (ci := 4) (q0 := 0) X (c_X4_read l D q ca nW nB hk E (f_X1_get nW nB E (kplace E) (4 : Int32))) ok_X4_read wd_314 ⟨by decide, by decide⟩ hP hD rfl rfl rfl hl.1 rfl (Nat.le_of_ble_eq_true rfl) dX4_instruct_224 ⟨Nat.zero_le _, Nat.zero_le _⟩) hP hD hS hA (fun H locs hP hD hS => ?_)
      exact rku_i (v := (f_X4_read nW nB E (f_X1_get nW nB E (kplace E) (4 : Int32))).1) (F := (f_X4_instruct nW nB E)) (E1 := (f_X4_read nW nB E (f_X1_get nW nB E (kplace E) (4 : Int32))).2) (by unfold f_X4_instruct; rw [if_neg c_1, if_pos c_2]; try rfl) X hP hD hS hAe hr hlk dX4_instruct_227
    by_cases c_3 : ((f_X1_get nW nB E (kplace E) (4 : Int32)) &&& (127 : Int32)) = (15 : Int32)
    ·
      refine lv_lookup (off := 205) (tgt := 246) hx hb dX4_instruct_41 (by decide) (by rw [c_3]; decide) (by decide) ?_
      refine lv_iload_n hx hb dX4_instruct_246 rfl (lv_at hl 0 rfl) ?_
      refine go_i (rn_S X (c_X4_f l D _ _ (f_X1_get nW nB E (kplace E) (4 : Int32))) ok_X4_f wd_273 ⟨by decide, by decide⟩ hP hD rfl hl.1 rfl (Nat.le_of_ble_eq_true rfl) dX4_instruct_247 ⟨Nat.zero_le _, Nat.zero_le _⟩) hP hD hS hA (fun H locs hP hD hS => ?_)
      refine lv_if_ne (tgt := 266) hx hb dX4_instruct_250 (by decide) (fun c_4 => ?_) (fun c_4 => ?_)
      ·
        refine lv_aload_n hx hb dX4_instruct_266 rfl (lv_at hl 1 rfl) ?_
        refine lv_iload_n hx hb dX4_instruct_267 rfl (lv_at hl 0 rfl) ?_
        refine go_i (rn_V (ci := 4) (q0 := 0) X (c_X4_illegal l D q ca nW nB hk E (f_X1_get nW nB E (kplace E) (4 : Int32))) ok_X4_illegal wd_286 ⟨by decide, by decide⟩ hP hD rfl rfl rfl hl.1 rfl (Nat.le_of_ble_eq_true rfl) dX4_instruct_268 ⟨Nat.zero_le _, Nat.zero_le _⟩) hP hD hS hA (fun H locs hP hD hS => ?_)
        exact rku_i (v := (f_X4_illegal nW nB E (f_X1_get nW nB E (kplace E) (4 : Int32))).1) (F := (f_X4_instruct nW nB E)) (E1 := (f_X4_illegal nW nB E (f_X1_get nW nB E (kplace E) (4 : Int32))).2) (by unfold f_X4_instruct; rw [if_neg c_1, if_neg c_2, if_pos c_3, if_neg c_4]; try rfl) X hP hD hS hAe hr hlk dX4_instruct_271
      ·
        refine lv_aload_n hx hb dX4_instruct_253 rfl (lv_at hl 1 rfl) ?_
        refine lv_aload_n hx hb dX4_instruct_254 rfl (lv_at hl 1 rfl) ?_
        refine gf_X4_56 X hP dX4_instruct_255 ?_
        refine lv_iconst (v := (4 : Int32)) hx hb dX4_instruct_258 (by decide) ?_
        refine lv_iadd hx hb dX4_instruct_259 ?_
        refine go_i (rn_V (ci := 4) (q0 := 0) X (c_X4_retireAt l D q ca nW nB hk E ((kplace E) + (4 : Int32))) ok_X4_retireAt wd_261 ⟨by decide, by decide⟩ hP hD rfl rfl rfl hl.1 rfl (Nat.le_of_ble_eq_true rfl) dX4_instruct_260 ⟨Nat.zero_le _, Nat.zero_le _⟩) hP hD hS hA (fun H locs hP hD hS => ?_)
        refine lv_goto (tgt := 271) hx hb dX4_instruct_263 (by decide) ?_
        exact rku_i (v := (f_X4_retireAt nW nB E ((kplace E) + (4 : Int32))).1) (F := (f_X4_instruct nW nB E)) (E1 := (f_X4_retireAt nW nB E ((kplace E) + (4 : Int32))).2) (by unfold f_X4_instruct; rw [if_neg c_1, if_neg c_2, if_pos c_3, if_pos c_4]; try rfl) X hP hD hS hAe hr hlk dX4_instruct_271
    by_cases c_5 : ((f_X1_get nW nB E (kplace E) (4 : Int32)) &&& (127 : Int32)) = (19 : Int32)
    ·
      refine lv_lookup (off := 193) (tgt := 234) hx hb dX4_instruct_41 (by decide) (by rw [c_5]; decide) (by decide) ?_
      refine lv_aload_n hx hb dX4_instruct_234 rfl (lv_at hl 1 rfl) ?_
      refine lv_iload_n hx hb dX4_instruct_235 rfl (lv_at hl 0 rfl) ?_
      refine go_i (rn_V (ci := 4) (q0 := 0) X (c_X4_reckonWithNumber l D q ca nW nB hk E (f_X1_get nW nB E (kplace E) (4 : Int32))) ok_X4_reckonWithNumber wd_367 ⟨by decide, by decide⟩ hP hD rfl rfl rfl hl.1 rfl (Nat.le_of_ble_eq_true rfl) dX4_instruct_236 ⟨Nat.zero_le _, Nat.zero_le _⟩) hP hD hS hA (fun H locs hP hD hS => ?_)
      exact rku_i (v := (f_X4_reckonWithNumber nW nB E (f_X1_get nW nB E (kplace E) (4 : Int32))).1) (F := (f_X4_instruct nW nB E)) (E1 := (f_X4_reckonWithNumber nW nB E (f_X1_get nW nB E (kplace E) (4 : Int32))).2) (by unfold f_X4_instruct; rw [if_neg c_1, if_neg c_2, if_neg c_3, if_pos c_5]; try rfl) X hP hD hS hAe hr hlk dX4_instruct_239
    by_cases c_6 : ((f_X1_get nW nB E (kplace E) (4 : Int32)) &&& (127 : Int32)) = (23 : Int32)
    ·
      refine lv_lookup (off := 110) (tgt := 151) hx hb dX4_instruct_41 (by decide) (by rw [c_6]; decide) (by decide) ?_
      refine lv_aload_n hx hb dX4_instruct_151 rfl (lv_at hl 1 rfl) ?_
      refine lv_iload_n hx hb dX4_instruct_152 rfl (lv_at hl 0 rfl) ?_
      refine lv_aload_n hx hb dX4_instruct_153 rfl (lv_at hl 1 rfl) ?_
      refine gf_X4_56 X hP dX4_instruct_154 ?_
      refine lv_iload_n hx hb dX4_instruct_157 rfl (lv_at hl 0 rfl) ?_
      refine lv_sipush (v := (-4096 : Int32)) hx hb dX4_instruct_158 (by decide) ?_
      refine lv_iand hx hb dX4_instruct_161 ?_
      refine lv_iadd hx hb dX4_instruct_162 ?_
      refine go_i (rn_V (ci := 4) (q0 := 0) X (c_X4_retire l D q ca nW nB hk E (f_X1_get nW nB E (kplace E) (4 : Int32)) ((kplace E) + ((f_X1_get nW nB E (kplace E) (4 : Int32)) &&& (-4096 : Int32)))) ok_X4_retire wd_253 ⟨by decide, by decide⟩ hP hD rfl rfl rfl hl.1 rfl (Nat.le_of_ble_eq_true rfl) dX4_instruct_163 ⟨Nat.zero_le _, Nat.zero_le _⟩) hP hD hS hA (fun H locs hP hD hS => ?_)
      exact rku_i (v := (f_X4_retire nW nB E (f_X1_get nW nB E (kplace E) (4 : Int32)) ((kplace E) + ((f_X1_get nW nB E (kplace E) (4 : Int32)) &&& (-4096 : Int32)))).1) (F := (f_X4_instruct nW nB E)) (E1 := (f_X4_retire nW nB E (f_X1_get nW nB E (kplace E) (4 : Int32)) ((kplace E) + ((f_X1_get nW nB E (kplace E) (4 : Int32)) &&& (-4096 : Int32)))).2) (by unfold f_X4_instruct; rw [if_neg c_1, if_neg c_2, if_neg c_3, if_neg c_5, if_pos c_6]; try rfl) X hP hD hS hAe hr hlk dX4_instruct_166
    by_cases c_7 : ((f_X1_get nW nB E (kplace E) (4 : Int32)) &&& (127 : Int32)) = (35 : Int32)
    ·
      refine lv_lookup (off := 187) (tgt := 228) hx hb dX4_instruct_41 (by decide) (by rw [c_7]; decide) (by decide) ?_
      refine lv_aload_n hx hb dX4_instruct_228 rfl (lv_at hl 1 rfl) ?_
      refine lv_iload_n hx hb dX4_instruct_229 rfl (lv_at hl 0 rfl) ?_
      refine go_i (rn_V (ci := 4) (q0 := 0) X (c_X4_store l D q ca nW nB hk E (f_X1_get nW nB E (kplace E) (4 : Int32)) hs) ok_X4_store wd_343 ⟨by decide, by decide⟩ hP hD rfl rfl rfl hl.1 rfl (Nat.le_of_ble_eq_true rfl) dX4_instruct_230 ⟨Nat.zero_le _, Nat.zero_le _⟩) hP hD hS hA (fun H locs hP hD hS => ?_)
      exact rku_i (v := (f_X4_store nW nB E (f_X1_get nW nB E (kplace E) (4 : Int32))).1) (F := (f_X4_instruct nW nB E)) (E1 := (f_X4_store nW nB E (f_X1_get nW nB E (kplace E) (4 : Int32))).2) (by unfold f_X4_instruct; rw [if_neg c_1, if_neg c_2, if_neg c_3, if_neg c_5, if_neg c_6, if_pos c_7]; try rfl) X hP hD hS hAe hr hlk dX4_instruct_233
    by_cases c_8 : ((f_X1_get nW nB E (kplace E) (4 : Int32)) &&& (127 : Int32)) = (51 : Int32)
    ·
      refine lv_lookup (off := 199) (tgt := 240) hx hb dX4_instruct_41 (by decide) (by rw [c_8]; decide) (by decide) ?_
      refine lv_aload_n hx hb dX4_instruct_240 rfl (lv_at hl 1 rfl) ?_
      refine lv_iload_n hx hb dX4_instruct_241 rfl (lv_at hl 0 rfl) ?_
      refine go_i (rn_V (ci := 4) (q0 := 0) X (c_X4_reckonWithRegister l D q ca nW nB hk E (f_X1_get nW nB E (kplace E) (4 : Int32))) ok_X4_reckonWithRegister wd_377 ⟨by decide, by decide⟩ hP hD rfl rfl rfl hl.1 rfl (Nat.le_of_ble_eq_true rfl) dX4_instruct_242 ⟨Nat.zero_le _, Nat.zero_le _⟩) hP hD hS hA (fun H locs hP hD hS => ?_)
      exact rku_i (v := (f_X4_reckonWithRegister nW nB E (f_X1_get nW nB E (kplace E) (4 : Int32))).1) (F := (f_X4_instruct nW nB E)) (E1 := (f_X4_reckonWithRegister nW nB E (f_X1_get nW nB E (kplace E) (4 : Int32))).2) (by unfold f_X4_instruct; rw [if_neg c_1, if_neg c_2, if_neg c_3, if_neg c_5, if_neg c_6, if_neg c_7, if_pos c_8]; try rfl) X hP hD hS hAe hr hlk dX4_instruct_245
    by_cases c_9 : ((f_X1_get nW nB E (kplace E) (4 : Int32)) &&& (127 : Int32)) = (55 : Int32)
    ·
      refine lv_lookup (off := 99) (tgt := 140) hx hb dX4_instruct_41 (by decide) (by rw [c_9]; decide) (by decide) ?_
      refine lv_aload_n hx hb dX4_instruct_140 rfl (lv_at hl 1 rfl) ?_
      refine lv_iload_n hx hb dX4_instruct_141 rfl (lv_at hl 0 rfl) ?_
      refine lv_iload_n hx hb dX4_instruct_142 rfl (lv_at hl 0 rfl) ?_
      refine lv_sipush (v := (-4096 : Int32)) hx hb dX4_instruct_143 (by decide) ?_
      refine lv_iand hx hb dX4_instruct_146 ?_
      refine go_i (rn_V (ci := 4) (q0 := 0) X (c_X4_retire l D q ca nW nB hk E (f_X1_get nW nB E (kplace E) (4 : Int32)) ((f_X1_get nW nB E (kplace E) (4 : Int32)) &&& (-4096 : Int32))) ok_X4_retire wd_253 ⟨by decide, by decide⟩ hP hD rfl rfl rfl hl.1 rfl (Nat.le_of_ble_eq_true rfl) dX4_instruct_147 ⟨Nat.zero_le _, Nat.zero_le _⟩) hP hD hS hA (fun H locs hP hD hS => ?_)
      exact rku_i (v := (f_X4_retire nW nB E (f_X1_get nW nB E (kplace E) (4 : Int32)) ((f_X1_get nW nB E (kplace E) (4 : Int32)) &&& (-4096 : Int32))).1) (F := (f_X4_instruct nW nB E)) (E1 := (f_X4_retire nW nB E (f_X1_get nW nB E (kplace E) (4 : Int32)) ((f_X1_get nW nB E (kplace E) (4 : Int32)) &&& (-4096 : Int32))).2) (by unfold f_X4_instruct; rw [if_neg c_1, if_neg c_2, if_neg c_3, if_neg c_5, if_neg c_6, if_neg c_7, if_neg c_8, if_pos c_9]; try rfl) X hP hD hS hAe hr hlk dX4_instruct_150
    by_cases c_10 : ((f_X1_get nW nB E (kplace E) (4 : Int32)) &&& (127 : Int32)) = (99 : Int32)
    ·
      refine lv_lookup (off := 175) (tgt := 216) hx hb dX4_instruct_41 (by decide) (by rw [c_10]; decide) (by decide) ?_
      refine lv_aload_n hx hb dX4_instruct_216 rfl (lv_at hl 1 rfl) ?_
      refine lv_iload_n hx hb dX4_instruct_217 rfl (lv_at hl 0 rfl) ?_
      refine go_i (rn_V (ci := 4) (q0 := 0) X (c_X4_branch l D q ca nW nB hk E (f_X1_get nW nB E (kplace E) (4 : Int32))) ok_X4_branch wd_290 ⟨by decide, by decide⟩ hP hD rfl rfl rfl hl.1 rfl (Nat.le_of_ble_eq_true rfl) dX4_instruct_218 ⟨Nat.zero_le _, Nat.zero_le _⟩) hP hD hS hA (fun H locs hP hD hS => ?_)
      exact rku_i (v := (f_X4_branch nW nB E (f_X1_get nW nB E (kplace E) (4 : Int32))).1) (F := (f_X4_instruct nW nB E)) (E1 := (f_X4_branch nW nB E (f_X1_get nW nB E (kplace E) (4 : Int32))).2) (by unfold f_X4_instruct; rw [if_neg c_1, if_neg c_2, if_neg c_3, if_neg c_5, if_neg c_6, if_neg c_7, if_neg c_8, if_neg c_9, if_pos c_10]; try rfl) X hP hD hS hAe hr hlk dX4_instruct_221
    by_cases c_11 : ((f_X1_get nW nB E (kplace E) (4 : Int32)) &&& (127 : Int32)) = (103 : Int32)
    ·
      refine lv_lookup (off := 141) (tgt := 182) hx hb dX4_instruct_41 (by decide) (by rw [c_11]; decide) (by decide) ?_
      refine lv_iload_n hx hb dX4_instruct_182 rfl (lv_at hl 0 rfl) ?_
      refine go_i (rn_S X (c_X4_f l D _ _ (f_X1_get nW nB E (kplace E) (4 : Int32))) ok_X4_f wd_273 ⟨by decide, by decide⟩ hP hD rfl hl.1 rfl (Nat.le_of_ble_eq_true rfl) dX4_instruct_183 ⟨Nat.zero_le _, Nat.zero_le _⟩) hP hD hS hA (fun H locs hP hD hS => ?_)
      refine lv_if_ne (tgt := 210) hx hb dX4_instruct_186 (by decide) (fun c_12 => ?_) (fun c_12 => ?_)
      ·
        refine lv_aload_n hx hb dX4_instruct_210 rfl (lv_at hl 1 rfl) ?_
        refine lv_iload_n hx hb dX4_instruct_211 rfl (lv_at hl 0 rfl) ?_
        refine go_i (rn_V (ci := 4) (q0 := 0) X (c_X4_illegal l D q ca nW nB hk E (f_X1_get nW nB E (kplace E) (4 : Int32))) ok_X4_illegal wd_286 ⟨by decide, by decide⟩ hP hD rfl rfl rfl hl.1 rfl (Nat.le_of_ble_eq_true rfl) dX4_instruct_212 ⟨Nat.zero_le _, Nat.zero_le _⟩) hP hD hS hA (fun H locs hP hD hS => ?_)
        exact rku_i (v := (f_X4_illegal nW nB E (f_X1_get nW nB E (kplace E) (4 : Int32))).1) (F := (f_X4_instruct nW nB E)) (E1 := (f_X4_illegal nW nB E (f_X1_get nW nB E (kplace E) (4 : Int32))).2) (by unfold f_X4_instruct; rw [if_neg c_1, if_neg c_2, if_neg c_3, if_neg c_5, if_neg c_6, if_neg c_7, if_neg c_8, if_neg c_9, if_neg c_10, if_pos c_11, if_neg c_12]; try rfl) X hP hD hS hAe hr hlk dX4_instruct_215
      ·
        refine lv_aload_n hx hb dX4_instruct_189 rfl (lv_at hl 1 rfl) ?_
        refine lv_iload_n hx hb dX4_instruct_190 rfl (lv_at hl 0 rfl) ?_
        refine lv_aload_n hx hb dX4_instruct_191 rfl (lv_at hl 1 rfl) ?_
        refine lv_iload_n hx hb dX4_instruct_192 rfl (lv_at hl 0 rfl) ?_
        refine go_i (rn_V (ci := 4) (q0 := 0) X (c_X4_a l D q ca nW nB hk E (f_X1_get nW nB E (kplace E) (4 : Int32))) ok_X4_a wd_276 ⟨by decide, by decide⟩ hP hD rfl rfl rfl hl.1 rfl (Nat.le_of_ble_eq_true rfl) dX4_instruct_193 ⟨Nat.zero_le _, Nat.zero_le _⟩) hP hD hS hA (fun H locs hP hD hS => ?_)
        refine lv_iload_n hx hb dX4_instruct_196 rfl (lv_at hl 0 rfl) ?_
        refine go_i (rn_S X (c_X4_offsetI l D _ _ (f_X1_get nW nB E (kplace E) (4 : Int32))) ok_X4_offsetI wd_283 ⟨by decide, by decide⟩ hP hD rfl hl.1 rfl (Nat.le_of_ble_eq_true rfl) dX4_instruct_197 ⟨Nat.zero_le _, Nat.zero_le _⟩) hP hD hS hA (fun H locs hP hD hS => ?_)
        refine lv_iadd hx hb dX4_instruct_200 ?_
        refine lv_bipush (v := (-2 : Int32)) hx hb dX4_instruct_201 (by decide) ?_
        refine lv_iand hx hb dX4_instruct_203 ?_
        refine go_i (rn_V (ci := 4) (q0 := 0) X (c_X4_jump l D q ca nW nB hk E (f_X1_get nW nB E (kplace E) (4 : Int32)) (((f_X4_a nW nB E (f_X1_get nW nB E (kplace E) (4 : Int32))) + (f_X4_offsetI (f_X1_get nW nB E (kplace E) (4 : Int32)))) &&& (-2 : Int32))) ok_X4_jump wd_269 ⟨by decide, by decide⟩ hP hD rfl rfl rfl hl.1 rfl (Nat.le_of_ble_eq_true rfl) dX4_instruct_204 ⟨Nat.zero_le _, Nat.zero_le _⟩) hP hD hS hA (fun H locs hP hD hS => ?_)
        refine lv_goto (tgt := 215) hx hb dX4_instruct_207 (by decide) ?_
        exact rku_i (v := (f_X4_jump nW nB E (f_X1_get nW nB E (kplace E) (4 : Int32)) (((f_X4_a nW nB E (f_X1_get nW nB E (kplace E) (4 : Int32))) + (f_X4_offsetI (f_X1_get nW nB E (kplace E) (4 : Int32)))) &&& (-2 : Int32))).1) (F := (f_X4_instruct nW nB E)) (E1 := (f_X4_jump nW nB E (f_X1_get nW nB E (kplace E) (4 : Int32)) (((f_X4_a nW nB E (f_X1_get nW nB E (kplace E) (4 : Int32))) + (f_X4_offsetI (f_X1_get nW nB E (kplace E) (4 : Int32)))) &&& (-2 : Int32))).2) (by unfold f_X4_instruct; rw [if_neg c_1, if_neg c_2, if_neg c_3, if_neg c_5, if_neg c_6, if_neg c_7, if_neg c_8, if_neg c_9, if_neg c_10, if_pos c_11, if_pos c_12]; try rfl) X hP hD hS hAe hr hlk dX4_instruct_215
    by_cases c_13 : ((f_X1_get nW nB E (kplace E) (4 : Int32)) &&& (127 : Int32)) = (111 : Int32)
    ·
      refine lv_lookup (off := 126) (tgt := 167) hx hb dX4_instruct_41 (by decide) (by rw [c_13]; decide) (by decide) ?_
      refine lv_aload_n hx hb dX4_instruct_167 rfl (lv_at hl 1 rfl) ?_
      refine lv_iload_n hx hb dX4_instruct_168 rfl (lv_at hl 0 rfl) ?_
      refine lv_aload_n hx hb dX4_instruct_169 rfl (lv_at hl 1 rfl) ?_
      refine gf_X4_56 X hP dX4_instruct_170 ?_
      refine lv_iload_n hx hb dX4_instruct_173 rfl (lv_at hl 0 rfl) ?_
      refine go_i (rn_S X (c_X4_offsetJ l D _ _ (f_X1_get nW nB E (kplace E) (4 : Int32))) ok_X4_offsetJ wd_265 ⟨by decide, by decide⟩ hP hD rfl hl.1 rfl (Nat.le_of_ble_eq_true rfl) dX4_instruct_174 ⟨Nat.zero_le _, Nat.zero_le _⟩) hP hD hS hA (fun H locs hP hD hS => ?_)
      refine lv_iadd hx hb dX4_instruct_177 ?_
      refine go_i (rn_V (ci := 4) (q0 := 0) X (c_X4_jump l D q ca nW nB hk E (f_X1_get nW nB E (kplace E) (4 : Int32)) ((kplace E) + (f_X4_offsetJ (f_X1_get nW nB E (kplace E) (4 : Int32))))) ok_X4_jump wd_269 ⟨by decide, by decide⟩ hP hD rfl rfl rfl hl.1 rfl (Nat.le_of_ble_eq_true rfl) dX4_instruct_178 ⟨Nat.zero_le _, Nat.zero_le _⟩) hP hD hS hA (fun H locs hP hD hS => ?_)
      exact rku_i (v := (f_X4_jump nW nB E (f_X1_get nW nB E (kplace E) (4 : Int32)) ((kplace E) + (f_X4_offsetJ (f_X1_get nW nB E (kplace E) (4 : Int32))))).1) (F := (f_X4_instruct nW nB E)) (E1 := (f_X4_jump nW nB E (f_X1_get nW nB E (kplace E) (4 : Int32)) ((kplace E) + (f_X4_offsetJ (f_X1_get nW nB E (kplace E) (4 : Int32))))).2) (by unfold f_X4_instruct; rw [if_neg c_1, if_neg c_2, if_neg c_3, if_neg c_5, if_neg c_6, if_neg c_7, if_neg c_8, if_neg c_9, if_neg c_10, if_neg c_11, if_pos c_13]; try rfl) X hP hD hS hAe hr hlk dX4_instruct_181
    by_cases c_14 : ((f_X1_get nW nB E (kplace E) (4 : Int32)) &&& (127 : Int32)) = (115 : Int32)
    ·
      refine lv_lookup (off := 231) (tgt := 272) hx hb dX4_instruct_41 (by decide) (by rw [c_14]; decide) (by decide) ?_
      refine lv_iload_n hx hb dX4_instruct_272 rfl (lv_at hl 0 rfl) ?_
      refine go_i (rn_S X (c_X4_f l D _ _ (f_X1_get nW nB E (kplace E) (4 : Int32))) ok_X4_f wd_273 ⟨by decide, by decide⟩ hP hD rfl hl.1 rfl (Nat.le_of_ble_eq_true rfl) dX4_instruct_273 ⟨Nat.zero_le _, Nat.zero_le _⟩) hP hD hS hA (fun H locs hP hD hS => ?_)
      refine lv_if_ne (tgt := 287) hx hb dX4_instruct_276 (by decide) (fun c_15 => ?_) (fun c_15 => ?_)
      ·
        refine lv_aload_n hx hb dX4_instruct_287 rfl (lv_at hl 1 rfl) ?_
        refine lv_iload_n hx hb dX4_instruct_288 rfl (lv_at hl 0 rfl) ?_
        refine go_i (rn_V (ci := 4) (q0 := 0) X (c_X4_control l D q ca nW nB hk E (f_X1_get nW nB E (kplace E) (4 : Int32))) ok_X4_control wd_396 ⟨by decide, by decide⟩ hP hD rfl rfl rfl hl.1 rfl (Nat.le_of_ble_eq_true rfl) dX4_instruct_289 ⟨Nat.zero_le _, Nat.zero_le _⟩) hP hD hS hA (fun H locs hP hD hS => ?_)
        exact rku_i (v := (f_X4_control nW nB E (f_X1_get nW nB E (kplace E) (4 : Int32))).1) (F := (f_X4_instruct nW nB E)) (E1 := (f_X4_control nW nB E (f_X1_get nW nB E (kplace E) (4 : Int32))).2) (by unfold f_X4_instruct; rw [if_neg c_1, if_neg c_2, if_neg c_3, if_neg c_5, if_neg c_6, if_neg c_7, if_neg c_8, if_neg c_9, if_neg c_10, if_neg c_11, if_neg c_13, if_pos c_14, if_neg c_15]; try rfl) X hP hD hS hAe hr hlk dX4_instruct_292
      ·
        refine lv_aload_n hx hb dX4_instruct_279 rfl (lv_at hl 1 rfl) ?_
        refine lv_iload_n hx hb dX4_instruct_280 rfl (lv_at hl 0 rfl) ?_
        refine go_i (rn_V (ci := 4) (q0 := 0) X (c_X4_system l D q ca nW nB hk E (f_X1_get nW nB E (kplace E) (4 : Int32))) ok_X4_system wd_388 ⟨by decide, by decide⟩ hP hD rfl rfl rfl hl.1 rfl (Nat.le_of_ble_eq_true rfl) dX4_instruct_281 ⟨Nat.zero_le _, Nat.zero_le _⟩) hP hD hS hA (fun H locs hP hD hS => ?_)
        refine lv_goto (tgt := 292) hx hb dX4_instruct_284 (by decide) ?_
        exact rku_i (v := (f_X4_system nW nB E (f_X1_get nW nB E (kplace E) (4 : Int32))).1) (F := (f_X4_instruct nW nB E)) (E1 := (f_X4_system nW nB E (f_X1_get nW nB E (kplace E) (4 : Int32))).2) (by unfold f_X4_instruct; rw [if_neg c_1, if_neg c_2, if_neg c_3, if_neg c_5, if_neg c_6, if_neg c_7, if_neg c_8, if_neg c_9, if_neg c_10, if_neg c_11, if_neg c_13, if_pos c_14, if_pos c_15]; try rfl) X hP hD hS hAe hr hlk dX4_instruct_292
    refine lv_lookup (off := 252) (tgt := 293) hx hb dX4_instruct_41 (by decide) ((lv_osw c_2 (by decide)).trans ((lv_osw c_3 (by decide)).trans ((lv_osw c_5 (by decide)).trans ((lv_osw c_6 (by decide)).trans ((lv_osw c_7 (by decide)).trans ((lv_osw c_8 (by decide)).trans ((lv_osw c_9 (by decide)).trans ((lv_osw c_10 (by decide)).trans ((lv_osw c_11 (by decide)).trans ((lv_osw c_13 (by decide)).trans ((lv_osw c_14 (by decide)).trans rfl))))))))))) (by decide) ?_
    refine lv_aload_n hx hb dX4_instruct_293 rfl (lv_at hl 1 rfl) ?_
    refine lv_iload_n hx hb dX4_instruct_294 rfl (lv_at hl 0 rfl) ?_
    refine go_i (rn_V (ci := 4) (q0 := 0) X (c_X4_illegal l D q ca nW nB hk E (f_X1_get nW nB E (kplace E) (4 : Int32))) ok_X4_illegal wd_286 ⟨by decide, by decide⟩ hP hD rfl rfl rfl hl.1 rfl (Nat.le_of_ble_eq_true rfl) dX4_instruct_295 ⟨Nat.zero_le _, Nat.zero_le _⟩) hP hD hS hA (fun H locs hP hD hS => ?_)
    exact rku_i (v := (f_X4_illegal nW nB E (f_X1_get nW nB E (kplace E) (4 : Int32))).1) (F := (f_X4_instruct nW nB E)) (E1 := (f_X4_illegal nW nB E (f_X1_get nW nB E (kplace E) (4 : Int32))).2) (by unfold f_X4_instruct; rw [if_neg c_1, if_neg c_2, if_neg c_3, if_neg c_5, if_neg c_6, if_neg c_7, if_neg c_8, if_neg c_9, if_neg c_10, if_neg c_11, if_neg c_13, if_neg c_14]; try rfl) X hP hD hS hAe hr hlk dX4_instruct_298
  ·
    refine lv_aload_n hx hb dX4_instruct_14 rfl (lv_at hl 0 rfl) ?_
    refine lv_iconst (v := (1 : Int32)) hx hb dX4_instruct_15 (by decide) ?_
    refine lv_aload_n hx hb dX4_instruct_16 rfl (lv_at hl 0 rfl) ?_
    refine gf_X4_56 X hP dX4_instruct_17 ?_
    refine go_i (rn_V (ci := 4) (q0 := 0) X (c_X4_trap l D q ca nW nB hk E (1 : Int32) (kplace E)) ok_X4_trap wd_249 ⟨by decide, by decide⟩ hP hD rfl rfl rfl hl.1 rfl (Nat.le_of_ble_eq_true rfl) dX4_instruct_20 ⟨Nat.zero_le _, Nat.zero_le _⟩) hP hD hS hA (fun H locs hP hD hS => ?_)
    exact rku_i (v := (f_X4_trap nW nB E (1 : Int32) (kplace E)).1) (F := (f_X4_instruct nW nB E)) (E1 := (f_X4_trap nW nB E (1 : Int32) (kplace E)).2) (by unfold f_X4_instruct; rw [if_pos c_1]; try rfl) X hP hD hS hAe hr hlk dX4_instruct_23
set_option maxHeartbeats 4000000 in
set_option maxRecDepth 100000 in
theorem c_X4_stepOnce (l : Launch) (D : va_G) (q : Nat → Nat) (ca : Nat → ClassId) (nW nB : Nat) (hk : KOk nW nB) (E : KS) (hs : ¬ ksent E < 0) : Mt l yX4_stepOnce cX4_stepOnce 4 (some .int) 6 D (tysK ca) [.ref (q 0)] (cwK q ca nW nB E) (QcI D (cwK q ca nW nB E) (cwK q ca nW nB (f_X4_stepOnce nW nB E).2) (f_X4_stepOnce nW nB E).1) := by
  refine ent (own := RX4) rfl (by decide) (Nat.le_of_ble_eq_true rfl) ?_
  intro p e s m below meth c A ls X hr hlk hmn hAe hA hP hD hS hl
  have hx := X.1.1
  have hb := X.1.2.1
  have hl : lv_has ls 4 [(0, .ref (q 0))] := hl
  refine lv_aload_n hx hb dX4_stepOnce_0 rfl (lv_at hl 0 rfl) ?_
  refine gf_X4_45 X hP dX4_stepOnce_1 ?_
  refine go_i (rn_V (ci := 0) (q0 := 6) X (c_X0_timerEnabled l D q ca nW nB hk E ) ok_X0_timerEnabled wd_221 ⟨by decide, by decide⟩ hP hD rfl rfl rfl hl.1 rfl (Nat.le_of_ble_eq_true rfl) dX4_stepOnce_4 ⟨Nat.zero_le _, Nat.zero_le _⟩) hP hD hS hA (fun H locs hP hD hS => ?_)
  refine lv_if_eq (tgt := 24) hx hb dX4_stepOnce_7 (by decide) (fun c_1 => ?_) (fun c_1 => ?_)
  ·
    refine lv_iconst (v := (0 : Int32)) hx hb dX4_stepOnce_24 (by decide) ?_
    refine lv_istore_n (lv' := [(1, .int (0 : Int32)), (0, .ref (q 0))]) hx hb dX4_stepOnce_25 rfl hl (by decide) rfl (fun ls hl => ?_)
    refine lv_iload_n hx hb dX4_stepOnce_26 rfl (lv_at hl 0 rfl) ?_
    refine lv_if_eq (tgt := 84) hx hb dX4_stepOnce_27 (by decide) (fun _ => ?_) (fun h => absurd (by decide) h)
    refine lv_aload_n hx hb dX4_stepOnce_84 rfl (lv_at hl 1 rfl) ?_
    refine gf_X4_60 X hP dX4_stepOnce_85 ?_
    refine lv_if_eq (tgt := 97) hx hb dX4_stepOnce_88 (by decide) (fun c_2 => ?_) (fun c_2 => ?_)
    ·
      refine lv_aload_n hx hb dX4_stepOnce_97 rfl (lv_at hl 1 rfl) ?_
      refine gf_X4_60 X hP dX4_stepOnce_98 ?_
      refine lv_istore_n (lv' := [(2, .int (b2i (kwaiting E))), (1, .int (0 : Int32)), (0, .ref (q 0))]) hx hb dX4_stepOnce_101 rfl hl (by decide) rfl (fun ls hl => ?_)
      refine lv_aload_n hx hb dX4_stepOnce_102 rfl (lv_at hl 2 rfl) ?_
      refine lv_iconst (v := (0 : Int32)) hx hb dX4_stepOnce_103 (by decide) ?_
      refine pf_X4_60 X hP hD hS false dX4_stepOnce_104 (fun H locs hP hD hS => ?_)
      refine lv_aload_n hx hb dX4_stepOnce_107 rfl (lv_at hl 2 rfl) ?_
      refine go_i (rn_V (ci := 4) (q0 := 0) X (c_X4_instruct l D q ca nW nB hk (kwaiting_ E false) hs) ok_X4_instruct wd_245 ⟨by decide, by decide⟩ hP hD rfl rfl rfl hl.1 rfl (Nat.le_of_ble_eq_true rfl) dX4_stepOnce_108 ⟨Nat.zero_le _, Nat.zero_le _⟩) hP hD hS hA (fun H locs hP hD hS => ?_)
      refine lv_istore_n (lv' := [(3, .int (f_X4_instruct nW nB (kwaiting_ E false)).1), (2, .int (b2i (kwaiting E))), (1, .int (0 : Int32)), (0, .ref (q 0))]) hx hb dX4_stepOnce_111 rfl hl (by decide) rfl (fun ls hl => ?_)
      refine lv_iload_n hx hb dX4_stepOnce_112 rfl (lv_at hl 0 rfl) ?_
      refine lv_iconst (v := (4 : Int32)) hx hb dX4_stepOnce_113 (by decide) ?_
      refine lv_icmp_ne (tgt := 122) hx hb dX4_stepOnce_114 (by decide) (fun c_3 => ?_) (fun c_3 => ?_)
      ·
        refine lv_iload_n hx hb dX4_stepOnce_122 rfl (lv_at hl 0 rfl) ?_
        exact rku_i (v := (f_X4_instruct nW nB (kwaiting_ E false)).1) (F := (f_X4_stepOnce nW nB E)) (E1 := (f_X4_instruct nW nB (kwaiting_ E false)).2) (by unfold f_X4_stepOnce; rw [if_pos c_1, if_pos c_2, if_neg c_3]; try rfl) X hP hD hS hAe hr hlk dX4_stepOnce_123
      ·
        refine lv_aload_n hx hb dX4_stepOnce_117 rfl (lv_at hl 3 rfl) ?_
        refine lv_iload_n hx hb dX4_stepOnce_118 rfl (lv_at hl 1 rfl) ?_
        refine pf_X4_60 X hP hD hS (kwaiting E) dX4_stepOnce_119 (fun H locs hP hD hS => ?_)
        refine lv_iload_n hx hb dX4_stepOnce_122 rfl (lv_at hl 0 rfl) ?_
        exact rku_i (v := (f_X4_instruct nW nB (kwaiting_ E false)).1) (F := (f_X4_stepOnce nW nB E)) (E1 := (kwaiting_ (f_X4_instruct nW nB (kwaiting_ E false)).2 (kwaiting E))) (by unfold f_X4_stepOnce; rw [if_pos c_1, if_pos c_2, if_pos c_3]; try rfl) X hP hD hS hAe hr hlk dX4_stepOnce_123
    ·
      refine lv_iload_n hx hb dX4_stepOnce_91 rfl (lv_at hl 0 rfl) ?_
      refine lv_if_ne (tgt := 97) hx hb dX4_stepOnce_92 (by decide) (fun h => absurd (by decide) h) (fun _ => ?_)
      refine lv_iconst (v := (3 : Int32)) hx hb dX4_stepOnce_95 (by decide) ?_
      exact rku_i (v := (3 : Int32)) (F := (f_X4_stepOnce nW nB E)) (E1 := E) (by unfold f_X4_stepOnce; rw [if_pos c_1, if_neg c_2]; try rfl) X hP hD hS hAe hr hlk dX4_stepOnce_96
  ·
    refine lv_aload_n hx hb dX4_stepOnce_10 rfl (lv_at hl 0 rfl) ?_
    refine gf_X4_31 X hP dX4_stepOnce_11 ?_
    refine go_i (rn_V (ci := 3) (q0 := 3) X (c_X3_isDue l D q ca nW nB hk E ) ok_X3_isDue wd_225 ⟨by decide, by decide⟩ hP hD rfl rfl rfl hl.1 rfl (Nat.le_of_ble_eq_true rfl) dX4_stepOnce_14 ⟨Nat.zero_le _, Nat.zero_le _⟩) hP hD hS hA (fun H locs hP hD hS => ?_)
    refine lv_if_eq (tgt := 24) hx hb dX4_stepOnce_17 (by decide) (fun c_4 => ?_) (fun c_4 => ?_)
    ·
      refine lv_iconst (v := (0 : Int32)) hx hb dX4_stepOnce_24 (by decide) ?_
      refine lv_istore_n (lv' := [(1, .int (0 : Int32)), (0, .ref (q 0))]) hx hb dX4_stepOnce_25 rfl hl (by decide) rfl (fun ls hl => ?_)
      refine lv_iload_n hx hb dX4_stepOnce_26 rfl (lv_at hl 0 rfl) ?_
      refine lv_if_eq (tgt := 84) hx hb dX4_stepOnce_27 (by decide) (fun _ => ?_) (fun h => absurd (by decide) h)
      refine lv_aload_n hx hb dX4_stepOnce_84 rfl (lv_at hl 1 rfl) ?_
      refine gf_X4_60 X hP dX4_stepOnce_85 ?_
      refine lv_if_eq (tgt := 97) hx hb dX4_stepOnce_88 (by decide) (fun c_5 => ?_) (fun c_5 => ?_)
      ·
        refine lv_aload_n hx hb dX4_stepOnce_97 rfl (lv_at hl 1 rfl) ?_
        refine gf_X4_60 X hP dX4_stepOnce_98 ?_
        refine lv_istore_n (lv' := [(2, .int (b2i (kwaiting E))), (1, .int (0 : Int32)), (0, .ref (q 0))]) hx hb dX4_stepOnce_101 rfl hl (by decide) rfl (fun ls hl => ?_)
        refine lv_aload_n hx hb dX4_stepOnce_102 rfl (lv_at hl 2 rfl) ?_
        refine lv_iconst (v := (0 : Int32)) hx hb dX4_stepOnce_103 (by decide) ?_
        refine pf_X4_60 X hP hD hS false dX4_stepOnce_104 (fun H locs hP hD hS => ?_)
        refine lv_aload_n hx hb dX4_stepOnce_107 rfl (lv_at hl 2 rfl) ?_
        refine go_i (rn_V (ci := 4) (q0 := 0) X (c_X4_instruct l D q ca nW nB hk (kwaiting_ E false) hs) ok_X4_instruct wd_245 ⟨by decide, by decide⟩ hP hD rfl rfl rfl hl.1 rfl (Nat.le_of_ble_eq_true rfl) dX4_stepOnce_108 ⟨Nat.zero_le _, Nat.zero_le _⟩) hP hD hS hA (fun H locs hP hD hS => ?_)
        refine lv_istore_n (lv' := [(3, .int (f_X4_instruct nW nB (kwaiting_ E false)).1), (2, .int (b2i (kwaiting E))), (1, .int (0 : Int32)), (0, .ref (q 0))]) hx hb dX4_stepOnce_111 rfl hl (by decide) rfl (fun ls hl => ?_)
        refine lv_iload_n hx hb dX4_stepOnce_112 rfl (lv_at hl 0 rfl) ?_
        refine lv_iconst (v := (4 : Int32)) hx hb dX4_stepOnce_113 (by decide) ?_
        refine lv_icmp_ne (tgt := 122) hx hb dX4_stepOnce_114 (by decide) (fun c_6 => ?_) (fun c_6 => ?_)
        ·
          refine lv_iload_n hx hb dX4_stepOnce_122 rfl (lv_at hl 0 rfl) ?_
          exact rku_i (v := (f_X4_instruct nW nB (kwaiting_ E false)).1) (F := (f_X4_stepOnce nW nB E)) (E1 := (f_X4_instruct nW nB (kwaiting_ E false)).2) (by unfold f_X4_stepOnce; rw [if_neg c_1, if_pos c_4, if_pos c_5, if_neg c_6]; try rfl) X hP hD hS hAe hr hlk dX4_stepOnce_123
        ·
          refine lv_aload_n hx hb dX4_stepOnce_117 rfl (lv_at hl 3 rfl) ?_
          refine lv_iload_n hx hb dX4_stepOnce_118 rfl (lv_at hl 1 rfl) ?_
          refine pf_X4_60 X hP hD hS (kwaiting E) dX4_stepOnce_119 (fun H locs hP hD hS => ?_)
          refine lv_iload_n hx hb dX4_stepOnce_122 rfl (lv_at hl 0 rfl) ?_
          exact rku_i (v := (f_X4_instruct nW nB (kwaiting_ E false)).1) (F := (f_X4_stepOnce nW nB E)) (E1 := (kwaiting_ (f_X4_instruct nW nB (kwaiting_ E false)).2 (kwaiting E))) (by unfold f_X4_stepOnce; rw [if_neg c_1, if_pos c_4, if_pos c_5, if_pos c_6]; try rfl) X hP hD hS hAe hr hlk dX4_stepOnce_123
      ·
        refine lv_iload_n hx hb dX4_stepOnce_91 rfl (lv_at hl 0 rfl) ?_
        refine lv_if_ne (tgt := 97) hx hb dX4_stepOnce_92 (by decide) (fun h => absurd (by decide) h) (fun _ => ?_)
        refine lv_iconst (v := (3 : Int32)) hx hb dX4_stepOnce_95 (by decide) ?_
        exact rku_i (v := (3 : Int32)) (F := (f_X4_stepOnce nW nB E)) (E1 := E) (by unfold f_X4_stepOnce; rw [if_neg c_1, if_pos c_4, if_neg c_5]; try rfl) X hP hD hS hAe hr hlk dX4_stepOnce_96
    ·
      refine lv_iconst (v := (1 : Int32)) hx hb dX4_stepOnce_20 (by decide) ?_
      refine lv_goto (tgt := 25) hx hb dX4_stepOnce_21 (by decide) ?_
      refine lv_istore_n (lv' := [(1, .int (1 : Int32)), (0, .ref (q 0))]) hx hb dX4_stepOnce_25 rfl hl (by decide) rfl (fun ls hl => ?_)
      refine lv_iload_n hx hb dX4_stepOnce_26 rfl (lv_at hl 0 rfl) ?_
      refine lv_if_eq (tgt := 84) hx hb dX4_stepOnce_27 (by decide) (fun h => absurd h (by decide)) (fun _ => ?_)
      refine lv_aload_n hx hb dX4_stepOnce_30 rfl (lv_at hl 1 rfl) ?_
      refine gf_X4_45 X hP dX4_stepOnce_31 ?_
      refine gf_X4_121 X hP dX4_stepOnce_34 ?_
      refine lv_if_eq (tgt := 84) hx hb dX4_stepOnce_37 (by decide) (fun c_7 => ?_) (fun c_7 => ?_)
      ·
        refine lv_aload_n hx hb dX4_stepOnce_84 rfl (lv_at hl 1 rfl) ?_
        refine gf_X4_60 X hP dX4_stepOnce_85 ?_
        refine lv_if_eq (tgt := 97) hx hb dX4_stepOnce_88 (by decide) (fun c_8 => ?_) (fun c_8 => ?_)
        ·
          refine lv_aload_n hx hb dX4_stepOnce_97 rfl (lv_at hl 1 rfl) ?_
          refine gf_X4_60 X hP dX4_stepOnce_98 ?_
          refine lv_istore_n (lv' := [(2, .int (b2i (kwaiting E))), (1, .int (1 : Int32)), (0, .ref (q 0))]) hx hb dX4_stepOnce_101 rfl hl (by decide) rfl (fun ls hl => ?_)
          refine lv_aload_n hx hb dX4_stepOnce_102 rfl (lv_at hl 2 rfl) ?_
          refine lv_iconst (v := (0 : Int32)) hx hb dX4_stepOnce_103 (by decide) ?_
          refine pf_X4_60 X hP hD hS false dX4_stepOnce_104 (fun H locs hP hD hS => ?_)
          refine lv_aload_n hx hb dX4_stepOnce_107 rfl (lv_at hl 2 rfl) ?_
          refine go_i (rn_V (ci := 4) (q0 := 0) X (c_X4_instruct l D q ca nW nB hk (kwaiting_ E false) hs) ok_X4_instruct wd_245 ⟨by decide, by decide⟩ hP hD rfl rfl rfl hl.1 rfl (Nat.le_of_ble_eq_true rfl) dX4_stepOnce_108 ⟨Nat.zero_le _, Nat.zero_le _⟩) hP hD hS hA (fun H locs hP hD hS => ?_)
          refine lv_istore_n (lv' := [(3, .int (f_X4_instruct nW nB (kwaiting_ E false)).1), (2, .int (b2i (kwaiting E))), (1, .int (1 : Int32)), (0, .ref (q 0))]) hx hb dX4_stepOnce_111 rfl hl (by decide) rfl (fun ls hl => ?_)
          refine lv_iload_n hx hb dX4_stepOnce_112 rfl (lv_at hl 0 rfl) ?_
          refine lv_iconst (v := (4 : Int32)) hx hb dX4_stepOnce_113 (by decide) ?_
          refine lv_icmp_ne (tgt := 122) hx hb dX4_stepOnce_114 (by decide) (fun c_9 => ?_) (fun c_9 => ?_)
          ·
            refine lv_iload_n hx hb dX4_stepOnce_122 rfl (lv_at hl 0 rfl) ?_
            exact rku_i (v := (f_X4_instruct nW nB (kwaiting_ E false)).1) (F := (f_X4_stepOnce nW nB E)) (E1 := (f_X4_instruct nW nB (kwaiting_ E false)).2) (by unfold f_X4_stepOnce; rw [if_neg c_1, if_neg c_4, if_pos c_7, if_pos c_8, if_neg c_9]; try rfl) X hP hD hS hAe hr hlk dX4_stepOnce_123
          ·
            refine lv_aload_n hx hb dX4_stepOnce_117 rfl (lv_at hl 3 rfl) ?_
            refine lv_iload_n hx hb dX4_stepOnce_118 rfl (lv_at hl 1 rfl) ?_
            refine pf_X4_60 X hP hD hS (kwaiting E) dX4_stepOnce_119 (fun H locs hP hD hS => ?_)
            refine lv_iload_n hx hb dX4_stepOnce_122 rfl (lv_at hl 0 rfl) ?_
            exact rku_i (v := (f_X4_instruct nW nB (kwaiting_ E false)).1) (F := (f_X4_stepOnce nW nB E)) (E1 := (kwaiting_ (f_X4_instruct nW nB (kwaiting_ E false)).2 (kwaiting E))) (by unfold f_X4_stepOnce; rw [if_neg c_1, if_neg c_4, if_pos c_7, if_pos c_8, if_pos c_9]; try rfl) X hP hD hS hAe hr hlk dX4_stepOnce_123
        ·
          refine lv_iload_n hx hb dX4_stepOnce_91 rfl (lv_at hl 0 rfl) ?_
          refine lv_if_ne (tgt := 97) hx hb dX4_stepOnce_92 (by decide) (fun _ => ?_) (fun h => absurd h (by decide))
          refine lv_aload_n hx hb dX4_stepOnce_97 rfl (lv_at hl 1 rfl) ?_
          refine gf_X4_60 X hP dX4_stepOnce_98 ?_
          refine lv_istore_n (lv' := [(2, .int (b2i (kwaiting E))), (1, .int (1 : Int32)), (0, .ref (q 0))]) hx hb dX4_stepOnce_101 rfl hl (by decide) rfl (fun ls hl => ?_)
          refine lv_aload_n hx hb dX4_stepOnce_102 rfl (lv_at hl 2 rfl) ?_
          refine lv_iconst (v := (0 : Int32)) hx hb dX4_stepOnce_103 (by decide) ?_
          refine pf_X4_60 X hP hD hS false dX4_stepOnce_104 (fun H locs hP hD hS => ?_)
          refine lv_aload_n hx hb dX4_stepOnce_107 rfl (lv_at hl 2 rfl) ?_
          refine go_i (rn_V (ci := 4) (q0 := 0) X (c_X4_instruct l D q ca nW nB hk (kwaiting_ E false) hs) ok_X4_instruct wd_245 ⟨by decide, by decide⟩ hP hD rfl rfl rfl hl.1 rfl (Nat.le_of_ble_eq_true rfl) dX4_stepOnce_108 ⟨Nat.zero_le _, Nat.zero_le _⟩) hP hD hS hA (fun H locs hP hD hS => ?_)
          refine lv_istore_n (lv' := [(3, .int (f_X4_instruct nW nB (kwaiting_ E false)).1), (2, .int (b2i (kwaiting E))), (1, .int (1 : Int32)), (0, .ref (q 0))]) hx hb dX4_stepOnce_111 rfl hl (by decide) rfl (fun ls hl => ?_)
          refine lv_iload_n hx hb dX4_stepOnce_112 rfl (lv_at hl 0 rfl) ?_
          refine lv_iconst (v := (4 : Int32)) hx hb dX4_stepOnce_113 (by decide) ?_
          refine lv_icmp_ne (tgt := 122) hx hb dX4_stepOnce_114 (by decide) (fun c_10 => ?_) (fun c_10 => ?_)
          ·
            refine lv_iload_n hx hb dX4_stepOnce_122 rfl (lv_at hl 0 rfl) ?_
            exact rku_i (v := (f_X4_instruct nW nB (kwaiting_ E false)).1) (F := (f_X4_stepOnce nW nB E)) (E1 := (f_X4_instruct nW nB (kwaiting_ E false)).2) (by unfold f_X4_stepOnce; rw [if_neg c_1, if_neg c_4, if_pos c_7, if_neg c_8, if_neg c_10]; try rfl) X hP hD hS hAe hr hlk dX4_stepOnce_123
          ·
            refine lv_aload_n hx hb dX4_stepOnce_117 rfl (lv_at hl 3 rfl) ?_
            refine lv_iload_n hx hb dX4_stepOnce_118 rfl (lv_at hl 1 rfl) ?_
            refine pf_X4_60 X hP hD hS (kwaiting E) dX4_stepOnce_119 (fun H locs hP hD hS => ?_)
            refine lv_iload_n hx hb dX4_stepOnce_122 rfl (lv_at hl 0 rfl) ?_
            exact rku_i (v := (f_X4_instruct nW nB (kwaiting_ E false)).1) (F := (f_X4_stepOnce nW nB E)) (E1 := (kwaiting_ (f_X4_instruct nW nB (kwaiting_ E false)).2 (kwaiting E))) (by unfold f_X4_stepOnce; rw [if_neg c_1, if_neg c_4, if_pos c_7, if_neg c_8, if_pos c_10]; try rfl) X hP hD hS hAe hr hlk dX4_stepOnce_123
      ·
        refine lv_aload_n hx hb dX4_stepOnce_40 rfl (lv_at hl 1 rfl) ?_
        refine lv_iconst (v := (0 : Int32)) hx hb dX4_stepOnce_41 (by decide) ?_
        refine pf_X4_60 X hP hD hS false dX4_stepOnce_42 (fun H locs hP hD hS => ?_)
        refine lv_aload_n hx hb dX4_stepOnce_45 rfl (lv_at hl 1 rfl) ?_
        refine gf_X4_45 X hP dX4_stepOnce_46 ?_
        refine lv_aload_n hx hb dX4_stepOnce_49 rfl (lv_at hl 1 rfl) ?_
        refine gf_X4_56 X hP dX4_stepOnce_50 ?_
        refine tw_eqi (y := (kplace E)) (gs_kplace_waiting _ _) ?_
        refine lv_ldc (v := (-2147483641 : Int32)) hx hb X.1.2.2.2.1 (X.1.2.2.2.2 _ wd_236) dX4_stepOnce_53 ?_
        refine lv_iconst (v := (0 : Int32)) hx hb dX4_stepOnce_55 (by decide) ?_
        refine go_i (rn_V (ci := 0) (q0 := 6) X (c_X0_enter l D q ca nW nB hk (kwaiting_ E false) (kplace E) (-2147483641 : Int32) (0 : Int32)) ok_X0_enter wd_237 ⟨by decide, by decide⟩ hP hD rfl rfl rfl hl.1 rfl (Nat.le_of_ble_eq_true rfl) dX4_stepOnce_56 ⟨Nat.zero_le _, Nat.zero_le _⟩) hP hD hS hA (fun H locs hP hD hS => ?_)
        refine lv_istore_n (lv' := [(2, .int (f_X0_enter nW nB (kwaiting_ E false) (kplace E) (-2147483641 : Int32) (0 : Int32)).1), (1, .int (1 : Int32)), (0, .ref (q 0))]) hx hb dX4_stepOnce_59 rfl hl (by decide) rfl (fun ls hl => ?_)
        refine lv_aload_n hx hb dX4_stepOnce_60 rfl (lv_at hl 2 rfl) ?_
        refine lv_aload_n hx hb dX4_stepOnce_61 rfl (lv_at hl 2 rfl) ?_
        refine gf_X4_45 X hP dX4_stepOnce_62 ?_
        refine go_i (rn_V (ci := 0) (q0 := 6) X (c_X0_hasOwnEntries l D q ca nW nB hk (f_X0_enter nW nB (kwaiting_ E false) (kplace E) (-2147483641 : Int32) (0 : Int32)).2 ) ok_X0_hasOwnEntries wd_241 ⟨by decide, by decide⟩ hP hD rfl rfl rfl hl.1 rfl (Nat.le_of_ble_eq_true rfl) dX4_stepOnce_65 ⟨Nat.zero_le _, Nat.zero_le _⟩) hP hD hS hA (fun H locs hP hD hS => ?_)
        refine lv_if_eq (tgt := 78) hx hb dX4_stepOnce_68 (by decide) (fun c_11 => ?_) (fun c_11 => ?_)
        ·
          refine lv_iload_n hx hb dX4_stepOnce_78 rfl (lv_at hl 0 rfl) ?_
          refine pf_X4_56 X hP hD hS (f_X0_enter nW nB (kwaiting_ E false) (kplace E) (-2147483641 : Int32) (0 : Int32)).1 dX4_stepOnce_79 (fun H locs hP hD hS => ?_)
          refine lv_iconst (v := (2 : Int32)) hx hb dX4_stepOnce_82 (by decide) ?_
          exact rku_i (v := (2 : Int32)) (F := (f_X4_stepOnce nW nB E)) (E1 := (kplace_ (f_X0_enter nW nB (kwaiting_ E false) (kplace E) (-2147483641 : Int32) (0 : Int32)).2 (f_X0_enter nW nB (kwaiting_ E false) (kplace E) (-2147483641 : Int32) (0 : Int32)).1)) (by unfold f_X4_stepOnce; rw [if_neg c_1, if_neg c_4, if_neg c_7, if_pos c_11]; try rfl) X hP hD hS hAe hr hlk dX4_stepOnce_83
        ·
          refine lv_iload_n hx hb dX4_stepOnce_71 rfl (lv_at hl 0 rfl) ?_
          refine lv_bipush (v := (28 : Int32)) hx hb dX4_stepOnce_72 (by decide) ?_
          refine lv_iadd hx hb dX4_stepOnce_74 ?_
          refine lv_goto (tgt := 79) hx hb dX4_stepOnce_75 (by decide) ?_
          refine pf_X4_56 X hP hD hS ((f_X0_enter nW nB (kwaiting_ E false) (kplace E) (-2147483641 : Int32) (0 : Int32)).1 + (28 : Int32)) dX4_stepOnce_79 (fun H locs hP hD hS => ?_)
          refine lv_iconst (v := (2 : Int32)) hx hb dX4_stepOnce_82 (by decide) ?_
          exact rku_i (v := (2 : Int32)) (F := (f_X4_stepOnce nW nB E)) (E1 := (kplace_ (f_X0_enter nW nB (kwaiting_ E false) (kplace E) (-2147483641 : Int32) (0 : Int32)).2 ((f_X0_enter nW nB (kwaiting_ E false) (kplace E) (-2147483641 : Int32) (0 : Int32)).1 + (28 : Int32)))) (by unfold f_X4_stepOnce; rw [if_neg c_1, if_neg c_4, if_neg c_7, if_neg c_11]; try rfl) X hP hD hS hAe hr hlk dX4_stepOnce_83
