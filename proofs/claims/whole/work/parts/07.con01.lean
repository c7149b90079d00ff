/-! contracts: J13_compare_74951 J13_compareUnsigned_74951 J6_compare_7cf53 J6_compareUnsigned_7cf53 X0_get X0_lists X3_isDue X4_csr X0_restart X2_restart X3_restart X1_holds X1_mask X1_shift X1_put X4_load X2_byteAt X4_out X4_outSize X4_pc X1_get X4_peek X4_poke -/
set_option maxHeartbeats 4000000 in
set_option maxRecDepth 100000 in
theorem c_J13_compare_74951 (l : Launch) (D : va_G) (tys : List (ClassId × FieldType)) (ws : va_W) (a1 : Int64) (a2 : Int64) : Mt l yJ13_compare_74951 cJ13_compare_74951 4 (some .int) 0 D tys [.long a1, .long a2] ws (QcI D ws ws (f_J13_compare_74951 a1 a2)) := by
  refine ent (own := RJ13) rfl (by decide) (Nat.le_of_ble_eq_true rfl) ?_
  intro p e s m below meth c A ls X hr hlk hmn hAe hA hP hD hS hl
  have hx := X.1.1
  have hb := X.1.2.1
  have hl : lv_has ls 4 [(0, .long a1), (2, .long a2)] := hl
  refine lv_lload_n hx hb dJ13_compare_74951_0 rfl (lv_at hl 0 rfl) ?_
  refine lv_lload_n hx hb dJ13_compare_74951_1 rfl (lv_at hl 1 rfl) ?_
  refine W.lcmp hx hb dJ13_compare_74951_2 ?_
  refine lv_if_ge (tgt := 10) hx hb dJ13_compare_74951_3 (by decide) (fun c_1 => ?_) (fun c_1 => ?_)
  ·
    refine lv_lload_n hx hb dJ13_compare_74951_10 rfl (lv_at hl 0 rfl) ?_
    refine lv_lload_n hx hb dJ13_compare_74951_11 rfl (lv_at hl 1 rfl) ?_
    refine W.lcmp hx hb dJ13_compare_74951_12 ?_
    refine lv_if_ne (tgt := 20) hx hb dJ13_compare_74951_13 (by decide) (fun c_2 => ?_) (fun c_2 => ?_)
    ·
      refine lv_iconst (v := (1 : Int32)) hx hb dJ13_compare_74951_20 (by decide) ?_
      exact rg_i (v := (1 : Int32)) (F := (f_J13_compare_74951 a1 a2)) (by unfold f_J13_compare_74951; rw [if_pos c_1, if_neg c_2]; try rfl) X hP hD hS hAe hr hlk dJ13_compare_74951_21
    ·
      refine lv_iconst (v := (0 : Int32)) hx hb dJ13_compare_74951_16 (by decide) ?_
      refine lv_goto (tgt := 21) hx hb dJ13_compare_74951_17 (by decide) ?_
      exact rg_i (v := (0 : Int32)) (F := (f_J13_compare_74951 a1 a2)) (by unfold f_J13_compare_74951; rw [if_pos c_1, if_pos c_2]; try rfl) X hP hD hS hAe hr hlk dJ13_compare_74951_21
  ·
    refine lv_iconst (v := (-1 : Int32)) hx hb dJ13_compare_74951_6 (by decide) ?_
    refine lv_goto (tgt := 21) hx hb dJ13_compare_74951_7 (by decide) ?_
    exact rg_i (v := (-1 : Int32)) (F := (f_J13_compare_74951 a1 a2)) (by unfold f_J13_compare_74951; rw [if_neg c_1]; try rfl) X hP hD hS hAe hr hlk dJ13_compare_74951_21
set_option maxHeartbeats 4000000 in
set_option maxRecDepth 100000 in
theorem c_J13_compareUnsigned_74951 (l : Launch) (D : va_G) (tys : List (ClassId × FieldType)) (ws : va_W) (a1 : Int64) (a2 : Int64) : Mt l yJ13_compareUnsigned_74951 cJ13_compareUnsigned_74951 4 (some .int) 1 D tys [.long a1, .long a2] ws (QcI D ws ws (f_J13_compareUnsigned_74951 a1 a2)) := by
  refine ent (own := RJ13) rfl (by decide) (Nat.le_of_ble_eq_true rfl) ?_
  intro p e s m below meth c A ls X hr hlk hmn hAe hA hP hD hS hl
  have hx := X.1.1
  have hb := X.1.2.1
  have hl : lv_has ls 4 [(0, .long a1), (2, .long a2)] := hl
  refine lv_lload_n hx hb dJ13_compareUnsigned_74951_0 rfl (lv_at hl 0 rfl) ?_
  refine lv_ldc2 (v := (-9223372036854775808 : Int64)) hx hb X.1.2.2.2.1 (X.1.2.2.2.2 _ wd_232) dJ13_compareUnsigned_74951_1 ?_
  refine lv_ladd hx hb dJ13_compareUnsigned_74951_4 ?_
  refine lv_lload_n hx hb dJ13_compareUnsigned_74951_5 rfl (lv_at hl 1 rfl) ?_
  refine lv_ldc2 (v := (-9223372036854775808 : Int64)) hx hb X.1.2.2.2.1 (X.1.2.2.2.2 _ wd_232) dJ13_compareUnsigned_74951_6 ?_
  refine lv_ladd hx hb dJ13_compareUnsigned_74951_9 ?_
  refine go_i (rn_S X (c_J13_compare_74951 l D _ _ (a1 + (-9223372036854775808 : Int64)) (a2 + (-9223372036854775808 : Int64))) ok_J13_compare_74951 wd_233 ⟨by decide, by decide⟩ hP hD rfl hl.1 rfl (Nat.le_of_ble_eq_true rfl) dJ13_compareUnsigned_74951_10 ⟨Nat.zero_le _, Nat.zero_le _⟩) hP hD hS hA (fun H locs hP hD hS => ?_)
  exact rg_i (v := (f_J13_compare_74951 (a1 + (-9223372036854775808 : Int64)) (a2 + (-9223372036854775808 : Int64)))) (F := (f_J13_compareUnsigned_74951 a1 a2)) rfl X hP hD hS hAe hr hlk dJ13_compareUnsigned_74951_13
set_option maxHeartbeats 4000000 in
set_option maxRecDepth 100000 in
theorem c_J6_compare_7cf53 (l : Launch) (D : va_G) (tys : List (ClassId × FieldType)) (ws : va_W) (a1 : Int32) (a2 : Int32) : Mt l yJ6_compare_7cf53 cJ6_compare_7cf53 2 (some .int) 0 D tys [.int a1, .int a2] ws (QcI D ws ws (f_J6_compare_7cf53 a1 a2)) := by
  refine ent (own := RJ6) rfl (by decide) (Nat.le_of_ble_eq_true rfl) ?_
  intro p e s m below meth c A ls X hr hlk hmn hAe hA hP hD hS hl
  have hx := X.1.1
  have hb := X.1.2.1
  have hl : lv_has ls 2 [(0, .int a1), (1, .int a2)] := hl
  refine lv_iload_n hx hb dJ6_compare_7cf53_0 rfl (lv_at hl 0 rfl) ?_
  refine lv_iload_n hx hb dJ6_compare_7cf53_1 rfl (lv_at hl 1 rfl) ?_
  refine lv_icmp_ge (tgt := 9) hx hb dJ6_compare_7cf53_2 (by decide) (fun c_1 => ?_) (fun c_1 => ?_)
  ·
    refine lv_iload_n hx hb dJ6_compare_7cf53_9 rfl (lv_at hl 0 rfl) ?_
    refine lv_iload_n hx hb dJ6_compare_7cf53_10 rfl (lv_at hl 1 rfl) ?_
    refine lv_icmp_ne (tgt := 18) hx hb dJ6_compare_7cf53_11 (by decide) (fun c_2 => ?_) (fun c_2 => ?_)
    ·
      refine lv_iconst (v := (1 : Int32)) hx hb dJ6_compare_7cf53_18 (by decide) ?_
      exact rg_i (v := (1 : Int32)) (F := (f_J6_compare_7cf53 a1 a2)) (by unfold f_J6_compare_7cf53; rw [if_pos c_1, if_neg c_2]; try rfl) X hP hD hS hAe hr hlk dJ6_compare_7cf53_19
    ·
      refine lv_iconst (v := (0 : Int32)) hx hb dJ6_compare_7cf53_14 (by decide) ?_
      refine lv_goto (tgt := 19) hx hb dJ6_compare_7cf53_15 (by decide) ?_
      exact rg_i (v := (0 : Int32)) (F := (f_J6_compare_7cf53 a1 a2)) (by unfold f_J6_compare_7cf53; rw [if_pos c_1, if_pos c_2]; try rfl) X hP hD hS hAe hr hlk dJ6_compare_7cf53_19
  ·
    refine lv_iconst (v := (-1 : Int32)) hx hb dJ6_compare_7cf53_5 (by decide) ?_
    refine lv_goto (tgt := 19) hx hb dJ6_compare_7cf53_6 (by decide) ?_
    exact rg_i (v := (-1 : Int32)) (F := (f_J6_compare_7cf53 a1 a2)) (by unfold f_J6_compare_7cf53; rw [if_neg c_1]; try rfl) X hP hD hS hAe hr hlk dJ6_compare_7cf53_19
set_option maxHeartbeats 4000000 in
set_option maxRecDepth 100000 in
theorem c_J6_compareUnsigned_7cf53 (l : Launch) (D : va_G) (tys : List (ClassId × FieldType)) (ws : va_W) (a1 : Int32) (a2 : Int32) : Mt l yJ6_compareUnsigned_7cf53 cJ6_compareUnsigned_7cf53 2 (some .int) 1 D tys [.int a1, .int a2] ws (QcI D ws ws (f_J6_compareUnsigned_7cf53 a1 a2)) := by
  refine ent (own := RJ6) rfl (by decide) (Nat.le_of_ble_eq_true rfl) ?_
  intro p e s m below meth c A ls X hr hlk hmn hAe hA hP hD hS hl
  have hx := X.1.1
  have hb := X.1.2.1
  have hl : lv_has ls 2 [(0, .int a1), (1, .int a2)] := hl
  refine lv_iload_n hx hb dJ6_compareUnsigned_7cf53_0 rfl (lv_at hl 0 rfl) ?_
  refine lv_ldc (v := (-2147483648 : Int32)) hx hb X.1.2.2.2.1 (X.1.2.2.2.2 _ wd_307) dJ6_compareUnsigned_7cf53_1 ?_
  refine lv_iadd hx hb dJ6_compareUnsigned_7cf53_3 ?_
  refine lv_iload_n hx hb dJ6_compareUnsigned_7cf53_4 rfl (lv_at hl 1 rfl) ?_
  refine lv_ldc (v := (-2147483648 : Int32)) hx hb X.1.2.2.2.1 (X.1.2.2.2.2 _ wd_307) dJ6_compareUnsigned_7cf53_5 ?_
  refine lv_iadd hx hb dJ6_compareUnsigned_7cf53_7 ?_
  refine go_i (rn_S X (c_J6_compare_7cf53 l D _ _ (a1 + (-2147483648 : Int32)) (a2 + (-2147483648 : Int32))) ok_J6_compare_7cf53 wd_308 ⟨by decide, by decide⟩ hP hD rfl hl.1 rfl (Nat.le_of_ble_eq_true rfl) dJ6_compareUnsigned_7cf53_8 ⟨Nat.zero_le _, Nat.zero_le _⟩) hP hD hS hA (fun H locs hP hD hS => ?_)
  exact rg_i (v := (f_J6_compare_7cf53 (a1 + (-2147483648 : Int32)) (a2 + (-2147483648 : Int32)))) (F := (f_J6_compareUnsigned_7cf53 a1 a2)) rfl X hP hD hS hAe hr hlk dJ6_compareUnsigned_7cf53_11
set_option maxHeartbeats 4000000 in
set_option maxRecDepth 100000 in
theorem c_X0_get (l : Launch) (D : va_G) (q : Nat → Nat) (ca : Nat → ClassId) (nW nB : Nat) (hk : KOk nW nB) (E : KS) (a1 : Int32) (a2 : Bool) : Mt l yX0_get cX0_get 3 (some .int) 0 D (tysK ca) [.ref (q 6), .int a1, .int (b2i a2)] (cwK q ca nW nB E) (QcI D (cwK q ca nW nB E) (cwK q ca nW nB E) (f_X0_get nW nB E a1 a2)) := by
  refine ent (own := RX0) rfl (by decide) (Nat.le_of_ble_eq_true rfl) ?_
  intro p e s m below meth c A ls X hr hlk hmn hAe hA hP hD hS hl
  have hx := X.1.1
  have hb := X.1.2.1
  have hl : lv_has ls 3 [(0, .ref (q 6)), (1, .int a1), (2, .int (b2i a2))] := hl
  refine lv_iload_n hx hb dX0_get_0 rfl (lv_at hl 1 rfl) ?_
  by_cases c_1 : a1 = (768 : Int32)
  ·
    refine lv_lookup (off := 83) (tgt := 84) hx hb dX0_get_1 (by decide) (by rw [c_1]; decide) (by decide) ?_
    refine lv_sipush (v := (6144 : Int32)) hx hb dX0_get_84 (by decide) ?_
    refine lv_aload_n hx hb dX0_get_87 rfl (lv_at hl 0 rfl) ?_
    refine gf_X0_7 X hP dX0_get_88 ?_
    refine lv_if_eq (tgt := 99) hx hb dX0_get_91 (by decide) (fun c_2 => ?_) (fun c_2 => ?_)
    ·
      refine lv_iconst (v := (0 : Int32)) hx hb dX0_get_99 (by decide) ?_
      refine lv_ior hx hb dX0_get_100 ?_
      refine lv_aload_n hx hb dX0_get_101 rfl (lv_at hl 0 rfl) ?_
      refine gf_X0_13 X hP dX0_get_102 ?_
      refine lv_if_eq (tgt := 114) hx hb dX0_get_105 (by decide) (fun c_3 => ?_) (fun c_3 => ?_)
      ·
        refine lv_iconst (v := (0 : Int32)) hx hb dX0_get_114 (by decide) ?_
        refine lv_ior hx hb dX0_get_115 ?_
        exact rg_i (v := (((6144 : Int32) ||| (0 : Int32)) ||| (0 : Int32))) (F := (f_X0_get nW nB E a1 a2)) (by unfold f_X0_get; rw [if_pos c_1, if_pos c_2, if_pos c_3]; try rfl) X hP hD hS hAe hr hlk dX0_get_116
      ·
        refine lv_sipush (v := (128 : Int32)) hx hb dX0_get_108 (by decide) ?_
        refine lv_goto (tgt := 115) hx hb dX0_get_111 (by decide) ?_
        refine lv_ior hx hb dX0_get_115 ?_
        exact rg_i (v := (((6144 : Int32) ||| (0 : Int32)) ||| (128 : Int32))) (F := (f_X0_get nW nB E a1 a2)) (by unfold f_X0_get; rw [if_pos c_1, if_pos c_2, if_neg c_3]; try rfl) X hP hD hS hAe hr hlk dX0_get_116
    ·
      refine lv_bipush (v := (8 : Int32)) hx hb dX0_get_94 (by decide) ?_
      refine lv_goto (tgt := 100) hx hb dX0_get_96 (by decide) ?_
      refine lv_ior hx hb dX0_get_100 ?_
      refine lv_aload_n hx hb dX0_get_101 rfl (lv_at hl 0 rfl) ?_
      refine gf_X0_13 X hP dX0_get_102 ?_
      refine lv_if_eq (tgt := 114) hx hb dX0_get_105 (by decide) (fun c_4 => ?_) (fun c_4 => ?_)
      ·
        refine lv_iconst (v := (0 : Int32)) hx hb dX0_get_114 (by decide) ?_
        refine lv_ior hx hb dX0_get_115 ?_
        exact rg_i (v := (((6144 : Int32) ||| (8 : Int32)) ||| (0 : Int32))) (F := (f_X0_get nW nB E a1 a2)) (by unfold f_X0_get; rw [if_pos c_1, if_neg c_2, if_pos c_4]; try rfl) X hP hD hS hAe hr hlk dX0_get_116
      ·
        refine lv_sipush (v := (128 : Int32)) hx hb dX0_get_108 (by decide) ?_
        refine lv_goto (tgt := 115) hx hb dX0_get_111 (by decide) ?_
        refine lv_ior hx hb dX0_get_115 ?_
        exact rg_i (v := (((6144 : Int32) ||| (8 : Int32)) ||| (128 : Int32))) (F := (f_X0_get nW nB E a1 a2)) (by unfold f_X0_get; rw [if_pos c_1, if_neg c_2, if_neg c_4]; try rfl) X hP hD hS hAe hr hlk dX0_get_116
  by_cases c_5 : a1 = (769 : Int32)
  ·
    refine lv_lookup (off := 116) (tgt := 117) hx hb dX0_get_1 (by decide) (by rw [c_5]; decide) (by decide) ?_
    refine lv_ldc (v := (1073746176 : Int32)) hx hb X.1.2.2.2.1 (X.1.2.2.2.2 _ wd_407) dX0_get_117 ?_
    exact rg_i (v := (1073746176 : Int32)) (F := (f_X0_get nW nB E a1 a2)) (by unfold f_X0_get; rw [if_neg c_1, if_pos c_5]; try rfl) X hP hD hS hAe hr hlk dX0_get_119
  by_cases c_6 : a1 = (772 : Int32)
  ·
    refine lv_lookup (off := 119) (tgt := 120) hx hb dX0_get_1 (by decide) (by rw [c_6]; decide) (by decide) ?_
    refine lv_aload_n hx hb dX0_get_120 rfl (lv_at hl 0 rfl) ?_
    refine gf_X0_16 X hP dX0_get_121 ?_
    exact rg_i (v := (kenabled E)) (F := (f_X0_get nW nB E a1 a2)) (by unfold f_X0_get; rw [if_neg c_1, if_neg c_5, if_pos c_6]; try rfl) X hP hD hS hAe hr hlk dX0_get_124
  by_cases c_7 : a1 = (773 : Int32)
  ·
    refine lv_lookup (off := 124) (tgt := 125) hx hb dX0_get_1 (by decide) (by rw [c_7]; decide) (by decide) ?_
    refine lv_aload_n hx hb dX0_get_125 rfl (lv_at hl 0 rfl) ?_
    refine gf_X0_20 X hP dX0_get_126 ?_
    exact rg_i (v := (kvector E)) (F := (f_X0_get nW nB E a1 a2)) (by unfold f_X0_get; rw [if_neg c_1, if_neg c_5, if_neg c_6, if_pos c_7]; try rfl) X hP hD hS hAe hr hlk dX0_get_129
  by_cases c_8 : a1 = (832 : Int32)
  ·
    refine lv_lookup (off := 129) (tgt := 130) hx hb dX0_get_1 (by decide) (by rw [c_8]; decide) (by decide) ?_
    refine lv_aload_n hx hb dX0_get_130 rfl (lv_at hl 0 rfl) ?_
    refine gf_X0_23 X hP dX0_get_131 ?_
    exact rg_i (v := (kscratch E)) (F := (f_X0_get nW nB E a1 a2)) (by unfold f_X0_get; rw [if_neg c_1, if_neg c_5, if_neg c_6, if_neg c_7, if_pos c_8]; try rfl) X hP hD hS hAe hr hlk dX0_get_134
  by_cases c_9 : a1 = (833 : Int32)
  ·
    refine lv_lookup (off := 134) (tgt := 135) hx hb dX0_get_1 (by decide) (by rw [c_9]; decide) (by decide) ?_
    refine lv_aload_n hx hb dX0_get_135 rfl (lv_at hl 0 rfl) ?_
    refine gf_X0_26 X hP dX0_get_136 ?_
    exact rg_i (v := (kback E)) (F := (f_X0_get nW nB E a1 a2)) (by unfold f_X0_get; rw [if_neg c_1, if_neg c_5, if_neg c_6, if_neg c_7, if_neg c_8, if_pos c_9]; try rfl) X hP hD hS hAe hr hlk dX0_get_139
  by_cases c_10 : a1 = (834 : Int32)
  ·
    refine lv_lookup (off := 139) (tgt := 140) hx hb dX0_get_1 (by decide) (by rw [c_10]; decide) (by decide) ?_
    refine lv_aload_n hx hb dX0_get_140 rfl (lv_at hl 0 rfl) ?_
    refine gf_X0_29 X hP dX0_get_141 ?_
    exact rg_i (v := (kcause E)) (F := (f_X0_get nW nB E a1 a2)) (by unfold f_X0_get; rw [if_neg c_1, if_neg c_5, if_neg c_6, if_neg c_7, if_neg c_8, if_neg c_9, if_pos c_10]; try rfl) X hP hD hS hAe hr hlk dX0_get_144
  by_cases c_11 : a1 = (835 : Int32)
  ·
    refine lv_lookup (off := 144) (tgt := 145) hx hb dX0_get_1 (by decide) (by rw [c_11]; decide) (by decide) ?_
    refine lv_aload_n hx hb dX0_get_145 rfl (lv_at hl 0 rfl) ?_
    refine gf_X0_32 X hP dX0_get_146 ?_
    exact rg_i (v := (kvalue E)) (F := (f_X0_get nW nB E a1 a2)) (by unfold f_X0_get; rw [if_neg c_1, if_neg c_5, if_neg c_6, if_neg c_7, if_neg c_8, if_neg c_9, if_neg c_10, if_pos c_11]; try rfl) X hP hD hS hAe hr hlk dX0_get_149
  by_cases c_12 : a1 = (836 : Int32)
  ·
    refine lv_lookup (off := 149) (tgt := 150) hx hb dX0_get_1 (by decide) (by rw [c_12]; decide) (by decide) ?_
    refine lv_iload_n hx hb dX0_get_150 rfl (lv_at hl 2 rfl) ?_
    refine lv_if_eq (tgt := 160) hx hb dX0_get_151 (by decide) (fun c_13 => ?_) (fun c_13 => ?_)
    ·
      refine lv_iconst (v := (0 : Int32)) hx hb dX0_get_160 (by decide) ?_
      exact rg_i (v := (0 : Int32)) (F := (f_X0_get nW nB E a1 a2)) (by unfold f_X0_get; rw [if_neg c_1, if_neg c_5, if_neg c_6, if_neg c_7, if_neg c_8, if_neg c_9, if_neg c_10, if_neg c_11, if_pos c_12, if_pos c_13]; try rfl) X hP hD hS hAe hr hlk dX0_get_161
    ·
      refine lv_sipush (v := (128 : Int32)) hx hb dX0_get_154 (by decide) ?_
      refine lv_goto (tgt := 161) hx hb dX0_get_157 (by decide) ?_
      exact rg_i (v := (128 : Int32)) (F := (f_X0_get nW nB E a1 a2)) (by unfold f_X0_get; rw [if_neg c_1, if_neg c_5, if_neg c_6, if_neg c_7, if_neg c_8, if_neg c_9, if_neg c_10, if_neg c_11, if_pos c_12, if_neg c_13]; try rfl) X hP hD hS hAe hr hlk dX0_get_161
  refine lv_lookup (off := 161) (tgt := 162) hx hb dX0_get_1 (by decide) ((lv_osw c_1 (by decide)).trans ((lv_osw c_5 (by decide)).trans ((lv_osw c_6 (by decide)).trans ((lv_osw c_7 (by decide)).trans ((lv_osw c_8 (by decide)).trans ((lv_osw c_9 (by decide)).trans ((lv_osw c_10 (by decide)).trans ((lv_osw c_11 (by decide)).trans ((lv_osw c_12 (by decide)).trans rfl))))))))) (by decide) ?_
  refine lv_iconst (v := (0 : Int32)) hx hb dX0_get_162 (by decide) ?_
  exact rg_i (v := (0 : Int32)) (F := (f_X0_get nW nB E a1 a2)) (by unfold f_X0_get; rw [if_neg c_1, if_neg c_5, if_neg c_6, if_neg c_7, if_neg c_8, if_neg c_9, if_neg c_10, if_neg c_11, if_neg c_12]; try rfl) X hP hD hS hAe hr hlk dX0_get_163
set_option maxHeartbeats 4000000 in
set_option maxRecDepth 100000 in
theorem c_X0_lists (l : Launch) (D : va_G) (tys : List (ClassId × FieldType)) (ws : va_W) (a1 : Int32) : Mt l yX0_lists cX0_lists 1 (some .boolean) 0 D tys [.int a1] ws (QcI D ws ws (b2i (f_X0_lists a1))) := by
  refine ent (own := RX0) rfl (by decide) (Nat.le_of_ble_eq_true rfl) ?_
  intro p e s m below meth c A ls X hr hlk hmn hAe hA hP hD hS hl
  have hx := X.1.1
  have hb := X.1.2.1
  have hl : lv_has ls 1 [(0, .int a1)] := hl
  refine lv_iload_n hx hb dX0_lists_0 rfl (lv_at hl 0 rfl) ?_
  by_cases c_1 : a1 = (768 : Int32)
  ·
    refine lv_lookup (off := 91) (tgt := 92) hx hb dX0_lists_1 (by decide) (by rw [c_1]; decide) (by decide) ?_
    refine lv_iconst (v := (1 : Int32)) hx hb dX0_lists_92 (by decide) ?_
    exact rg_z (v := true) (F := (f_X0_lists a1)) (by unfold f_X0_lists; rw [if_pos c_1]; try rfl) X hP hD hS hAe hr hlk dX0_lists_93
  by_cases c_2 : a1 = (769 : Int32)
  ·
    refine lv_lookup (off := 91) (tgt := 92) hx hb dX0_lists_1 (by decide) (by rw [c_2]; decide) (by decide) ?_
    refine lv_iconst (v := (1 : Int32)) hx hb dX0_lists_92 (by decide) ?_
    exact rg_z (v := true) (F := (f_X0_lists a1)) (by unfold f_X0_lists; rw [if_neg c_1, if_pos c_2]; try rfl) X hP hD hS hAe hr hlk dX0_lists_93
  by_cases c_3 : a1 = (772 : Int32)
  ·
    refine lv_lookup (off := 91) (tgt := 92) hx hb dX0_lists_1 (by decide) (by rw [c_3]; decide) (by decide) ?_
    refine lv_iconst (v := (1 : Int32)) hx hb dX0_lists_92 (by decide) ?_
    exact rg_z (v := true) (F := (f_X0_lists a1)) (by unfold f_X0_lists; rw [if_neg c_1, if_neg c_2, if_pos c_3]; try rfl) X hP hD hS hAe hr hlk dX0_lists_93
  by_cases c_4 : a1 = (773 : Int32)
  ·
    refine lv_lookup (off := 91) (tgt := 92) hx hb dX0_lists_1 (by decide) (by rw [c_4]; decide) (by decide) ?_
    refine lv_iconst (v := (1 : Int32)) hx hb dX0_lists_92 (by decide) ?_
    exact rg_z (v := true) (F := (f_X0_lists a1)) (by unfold f_X0_lists; rw [if_neg c_1, if_neg c_2, if_neg c_3, if_pos c_4]; try rfl) X hP hD hS hAe hr hlk dX0_lists_93
  by_cases c_5 : a1 = (832 : Int32)
  ·
    refine lv_lookup (off := 91) (tgt := 92) hx hb dX0_lists_1 (by decide) (by rw [c_5]; decide) (by decide) ?_
    refine lv_iconst (v := (1 : Int32)) hx hb dX0_lists_92 (by decide) ?_
    exact rg_z (v := true) (F := (f_X0_lists a1)) (by unfold f_X0_lists; rw [if_neg c_1, if_neg c_2, if_neg c_3, if_neg c_4, if_pos c_5]; try rfl) X hP hD hS hAe hr hlk dX0_lists_93
  by_cases c_6 : a1 = (833 : Int32)
  ·
    refine lv_lookup (off := 91) (tgt := 92) hx hb dX0_lists_1 (by decide) (by rw [c_6]; decide) (by decide) ?_
    refine lv_iconst (v := (1 : Int32)) hx hb dX0_lists_92 (by decide) ?_
    exact rg_z (v := true) (F := (f_X0_lists a1)) (by unfold f_X0_lists; rw [if_neg c_1, if_neg c_2, if_neg c_3, if_neg c_4, if_neg c_5, if_pos c_6]; try rfl) X hP hD hS hAe hr hlk dX0_lists_93
  by_cases c_7 : a1 = (834 : Int32)
  ·
    refine lv_lookup (off := 91) (tgt := 92) hx hb dX0_lists_1 (by decide) (by rw [c_7]; decide) (by decide) ?_
    refine lv_iconst (v := (1 : Int32)) hx hb dX0_lists_92 (by decide) ?_
    exact rg_z (v := true) (F := (f_X0_lists a1)) (by unfold f_X0_lists; rw [if_neg c_1, if_neg c_2, if_neg c_3, if_neg c_4, if_neg c_5, if_neg c_6, if_pos c_7]; try rfl) X hP hD hS hAe hr hlk dX0_lists_93
  by_cases c_8 : a1 = (835 : Int32)
  ·
    refine lv_lookup (off := 91) (tgt := 92) hx hb dX0_lists_1 (by decide) (by rw [c_8]; decide) (by decide) ?_
    refine lv_iconst (v := (1 : Int32)) hx hb dX0_lists_92 (by decide) ?_
    exact rg_z (v := true) (F := (f_X0_lists a1)) (by unfold f_X0_lists; rw [if_neg c_1, if_neg c_2, if_neg c_3, if_neg c_4, if_neg c_5, if_neg c_6, if_neg c_7, if_pos c_8]; try rfl) X hP hD hS hAe hr hlk dX0_lists_93
  by_cases c_9 : a1 = (836 : Int32)
  ·
    refine lv_lookup (off := 91) (tgt := 92) hx hb dX0_lists_1 (by decide) (by rw [c_9]; decide) (by decide) ?_
    refine lv_iconst (v := (1 : Int32)) hx hb dX0_lists_92 (by decide) ?_
    exact rg_z (v := true) (F := (f_X0_lists a1)) (by unfold f_X0_lists; rw [if_neg c_1, if_neg c_2, if_neg c_3, if_neg c_4, if_neg c_5, if_neg c_6, if_neg c_7, if_neg c_8, if_pos c_9]; try rfl) X hP hD hS hAe hr hlk dX0_lists_93
  by_cases c_10 : a1 = (3860 : Int32)
  ·
    refine lv_lookup (off := 91) (tgt := 92) hx hb dX0_lists_1 (by decide) (by rw [c_10]; decide) (by decide) ?_
    refine lv_iconst (v := (1 : Int32)) hx hb dX0_lists_92 (by decide) ?_
    exact rg_z (v := true) (F := (f_X0_lists a1)) (by unfold f_X0_lists; rw [if_neg c_1, if_neg c_2, if_neg c_3, if_neg c_4, if_neg c_5, if_neg c_6, if_neg c_7, if_neg c_8, if_neg c_9, if_pos c_10]; try rfl) X hP hD hS hAe hr hlk dX0_lists_93
  refine lv_lookup (off := 93) (tgt := 94) hx hb dX0_lists_1 (by decide) ((lv_osw c_1 (by decide)).trans ((lv_osw c_2 (by decide)).trans ((lv_osw c_3 (by decide)).trans ((lv_osw c_4 (by decide)).trans ((lv_osw c_5 (by decide)).trans ((lv_osw c_6 (by decide)).trans ((lv_osw c_7 (by decide)).trans ((lv_osw c_8 (by decide)).trans ((lv_osw c_9 (by decide)).trans ((lv_osw c_10 (by decide)).trans rfl)))))))))) (by decide) ?_
  refine lv_iconst (v := (0 : Int32)) hx hb dX0_lists_94 (by decide) ?_
  exact rg_z (v := false) (F := (f_X0_lists a1)) (by unfold f_X0_lists; rw [if_neg c_1, if_neg c_2, if_neg c_3, if_neg c_4, if_neg c_5, if_neg c_6, if_neg c_7, if_neg c_8, if_neg c_9, if_neg c_10]; try rfl) X hP hD hS hAe hr hlk dX0_lists_95
set_option maxHeartbeats 4000000 in
set_option maxRecDepth 100000 in
theorem c_X3_isDue (l : Launch) (D : va_G) (q : Nat → Nat) (ca : Nat → ClassId) (nW nB : Nat) (hk : KOk nW nB) (E : KS) : Mt l yX3_isDue cX3_isDue 1 (some .boolean) 2 D (tysK ca) [.ref (q 3)] (cwK q ca nW nB E) (QcI D (cwK q ca nW nB E) (cwK q ca nW nB E) (b2i (f_X3_isDue nW nB E))) := by
  refine ent (own := RX3) rfl (by decide) (Nat.le_of_ble_eq_true rfl) ?_
  intro p e s m below meth c A ls X hr hlk hmn hAe hA hP hD hS hl
  have hx := X.1.1
  have hb := X.1.2.1
  have hl : lv_has ls 1 [(0, .ref (q 3))] := hl
  refine lv_aload_n hx hb dX3_isDue_0 rfl (lv_at hl 0 rfl) ?_
  refine gf_X3_7 X hP dX3_isDue_1 ?_
  refine lv_aload_n hx hb dX3_isDue_4 rfl (lv_at hl 0 rfl) ?_
  refine gf_X3_15 X hP dX3_isDue_5 ?_
  refine go_i (rn_S X (c_J13_compareUnsigned_74951 l D _ _ (ktime E) (klimit E)) ok_J13_compareUnsigned_74951 wd_229 ⟨by decide, by decide⟩ hP hD rfl hl.1 rfl (Nat.le_of_ble_eq_true rfl) dX3_isDue_8 ⟨Nat.zero_le _, Nat.zero_le _⟩) hP hD hS hA (fun H locs hP hD hS => ?_)
  refine lv_if_lt (tgt := 18) hx hb dX3_isDue_11 (by decide) (fun c_1 => ?_) (fun c_1 => ?_)
  ·
    refine lv_iconst (v := (0 : Int32)) hx hb dX3_isDue_18 (by decide) ?_
    exact rg_z (v := false) (F := (f_X3_isDue nW nB E)) (by unfold f_X3_isDue; rw [if_pos c_1]; try rfl) X hP hD hS hAe hr hlk dX3_isDue_19
  ·
    refine lv_iconst (v := (1 : Int32)) hx hb dX3_isDue_14 (by decide) ?_
    refine lv_goto (tgt := 19) hx hb dX3_isDue_15 (by decide) ?_
    exact rg_z (v := true) (F := (f_X3_isDue nW nB E)) (by unfold f_X3_isDue; rw [if_neg c_1]; try rfl) X hP hD hS hAe hr hlk dX3_isDue_19
set_option maxHeartbeats 4000000 in
set_option maxRecDepth 100000 in
theorem c_X4_csr (l : Launch) (D : va_G) (q : Nat → Nat) (ca : Nat → ClassId) (nW nB : Nat) (hk : KOk nW nB) (E : KS) (a1 : Int32) : Mt l yX4_csr cX4_csr 2 (some .int) 3 D (tysK ca) [.ref (q 0), .int a1] (cwK q ca nW nB E) (QcI D (cwK q ca nW nB E) (cwK q ca nW nB E) (f_X4_csr nW nB E a1)) := by
  refine ent (own := RX4) rfl (by decide) (Nat.le_of_ble_eq_true rfl) ?_
  intro p e s m below meth c A ls X hr hlk hmn hAe hA hP hD hS hl
  have hx := X.1.1
  have hb := X.1.2.1
  have hl : lv_has ls 2 [(0, .ref (q 0)), (1, .int a1)] := hl
  refine lv_iload_n hx hb dX4_csr_0 rfl (lv_at hl 1 rfl) ?_
  refine go_i (rn_S X (c_X0_lists l D _ _ a1) ok_X0_lists wd_400 ⟨by decide, by decide⟩ hP hD rfl hl.1 rfl (Nat.le_of_ble_eq_true rfl) dX4_csr_1 ⟨Nat.zero_le _, Nat.zero_le _⟩) hP hD hS hA (fun H locs hP hD hS => ?_)
  refine lv_if_eq (tgt := 25) hx hb dX4_csr_4 (by decide) (fun c_1 => ?_) (fun c_1 => ?_)
  ·
    refine lv_iconst (v := (0 : Int32)) hx hb dX4_csr_25 (by decide) ?_
    exact rg_i (v := (0 : Int32)) (F := (f_X4_csr nW nB E a1)) (by unfold f_X4_csr; rw [if_pos c_1]; try rfl) X hP hD hS hAe hr hlk dX4_csr_26
  ·
    refine lv_aload_n hx hb dX4_csr_7 rfl (lv_at hl 0 rfl) ?_
    refine gf_X4_45 X hP dX4_csr_8 ?_
    refine lv_iload_n hx hb dX4_csr_11 rfl (lv_at hl 1 rfl) ?_
    refine lv_aload_n hx hb dX4_csr_12 rfl (lv_at hl 0 rfl) ?_
    refine gf_X4_31 X hP dX4_csr_13 ?_
    refine go_i (rn_V (ci := 3) (q0 := 3) X (c_X3_isDue l D q ca nW nB hk E ) ok_X3_isDue wd_225 ⟨by decide, by decide⟩ hP hD rfl rfl rfl hl.1 rfl (Nat.le_of_ble_eq_true rfl) dX4_csr_16 ⟨Nat.zero_le _, Nat.zero_le _⟩) hP hD hS hA (fun H locs hP hD hS => ?_)
    refine go_i (rn_V (ci := 0) (q0 := 6) X (c_X0_get l D q ca nW nB hk E a1 (f_X3_isDue nW nB E)) ok_X0_get wd_403 ⟨by decide, by decide⟩ hP hD rfl rfl rfl hl.1 rfl (Nat.le_of_ble_eq_true rfl) dX4_csr_19 ⟨Nat.zero_le _, Nat.zero_le _⟩) hP hD hS hA (fun H locs hP hD hS => ?_)
    refine lv_goto (tgt := 26) hx hb dX4_csr_22 (by decide) ?_
    exact rg_i (v := (f_X0_get nW nB E a1 (f_X3_isDue nW nB E))) (F := (f_X4_csr nW nB E a1)) (by unfold f_X4_csr; rw [if_neg c_1]; try rfl) X hP hD hS hAe hr hlk dX4_csr_26
set_option maxHeartbeats 4000000 in
set_option maxRecDepth 100000 in
theorem c_X0_restart (l : Launch) (D : va_G) (q : Nat → Nat) (ca : Nat → ClassId) (nW nB : Nat) (hk : KOk nW nB) (E : KS) : Mt l yX0_restart cX0_restart 1 none 0 D (tysK ca) [.ref (q 6)] (cwK q ca nW nB E) (QcV D (cwK q ca nW nB E) (cwK q ca nW nB (f_X0_restart nW nB E))) := by
  refine ent (own := RX0) rfl (by decide) (Nat.le_of_ble_eq_true rfl) ?_
  intro p e s m below meth c A ls X hr hlk hmn hAe hA hP hD hS hl
  have hx := X.1.1
  have hb := X.1.2.1
  have hl : lv_has ls 1 [(0, .ref (q 6))] := hl
  refine lv_aload_n hx hb dX0_restart_0 rfl (lv_at hl 0 rfl) ?_
  refine lv_iconst (v := (0 : Int32)) hx hb dX0_restart_1 (by decide) ?_
  refine pf_X0_7 X hP hD hS false dX0_restart_2 (fun H locs hP hD hS => ?_)
  refine lv_aload_n hx hb dX0_restart_5 rfl (lv_at hl 0 rfl) ?_
  refine lv_iconst (v := (0 : Int32)) hx hb dX0_restart_6 (by decide) ?_
  refine pf_X0_13 X hP hD hS false dX0_restart_7 (fun H locs hP hD hS => ?_)
  refine lv_aload_n hx hb dX0_restart_10 rfl (lv_at hl 0 rfl) ?_
  refine lv_iconst (v := (0 : Int32)) hx hb dX0_restart_11 (by decide) ?_
  refine pf_X0_16 X hP hD hS (0 : Int32) dX0_restart_12 (fun H locs hP hD hS => ?_)
  refine lv_aload_n hx hb dX0_restart_15 rfl (lv_at hl 0 rfl) ?_
  refine lv_iconst (v := (0 : Int32)) hx hb dX0_restart_16 (by decide) ?_
  refine pf_X0_20 X hP hD hS (0 : Int32) dX0_restart_17 (fun H locs hP hD hS => ?_)
  refine lv_aload_n hx hb dX0_restart_20 rfl (lv_at hl 0 rfl) ?_
  refine lv_iconst (v := (0 : Int32)) hx hb dX0_restart_21 (by decide) ?_
  refine pf_X0_23 X hP hD hS (0 : Int32) dX0_restart_22 (fun H locs hP hD hS => ?_)
  refine lv_aload_n hx hb dX0_restart_25 rfl (lv_at hl 0 rfl) ?_
  refine lv_iconst (v := (0 : Int32)) hx hb dX0_restart_26 (by decide) ?_
  refine pf_X0_26 X hP hD hS (0 : Int32) dX0_restart_27 (fun H locs hP hD hS => ?_)
  refine lv_aload_n hx hb dX0_restart_30 rfl (lv_at hl 0 rfl) ?_
  refine lv_iconst (v := (0 : Int32)) hx hb dX0_restart_31 (by decide) ?_
  refine pf_X0_29 X hP hD hS (0 : Int32) dX0_restart_32 (fun H locs hP hD hS => ?_)
  refine lv_aload_n hx hb dX0_restart_35 rfl (lv_at hl 0 rfl) ?_
  refine lv_iconst (v := (0 : Int32)) hx hb dX0_restart_36 (by decide) ?_
  refine pf_X0_32 X hP hD hS (0 : Int32) dX0_restart_37 (fun H locs hP hD hS => ?_)
  exact rku_v (F := (f_X0_restart nW nB E)) (E1 := (kvalue_ (kcause_ (kback_ (kscratch_ (kvector_ (kenabled_ (kwas_ (kon_ E false) false) (0 : Int32)) (0 : Int32)) (0 : Int32)) (0 : Int32)) (0 : Int32)) (0 : Int32))) rfl X hP hD hS hAe hr hlk dX0_restart_40
set_option maxHeartbeats 4000000 in
set_option maxRecDepth 100000 in
theorem c_X2_restart (l : Launch) (D : va_G) (q : Nat → Nat) (ca : Nat → ClassId) (nW nB : Nat) (hk : KOk nW nB) (E : KS) : Mt l yX2_restart cX2_restart 1 none 0 D (tysK ca) [.ref (q 4)] (cwK q ca nW nB E) (QcV D (cwK q ca nW nB E) (cwK q ca nW nB (f_X2_restart nW nB E))) := by
  refine ent (own := RX2) rfl (by decide) (Nat.le_of_ble_eq_true rfl) ?_
  intro p e s m below meth c A ls X hr hlk hmn hAe hA hP hD hS hl
  have hx := X.1.1
  have hb := X.1.2.1
  have hl : lv_has ls 1 [(0, .ref (q 4))] := hl
  refine lv_aload_n hx hb dX2_restart_0 rfl (lv_at hl 0 rfl) ?_
  refine lv_iconst (v := (0 : Int32)) hx hb dX2_restart_1 (by decide) ?_
  refine pf_X2_13 X hP hD hS (0 : Int32) dX2_restart_2 (fun H locs hP hD hS => ?_)
  exact rku_v (F := (f_X2_restart nW nB E)) (E1 := (ksent_ E (0 : Int32))) rfl X hP hD hS hAe hr hlk dX2_restart_5
set_option maxHeartbeats 4000000 in
set_option maxRecDepth 100000 in
theorem c_X3_restart (l : Launch) (D : va_G) (q : Nat → Nat) (ca : Nat → ClassId) (nW nB : Nat) (hk : KOk nW nB) (E : KS) : Mt l yX3_restart cX3_restart 1 none 0 D (tysK ca) [.ref (q 3)] (cwK q ca nW nB E) (QcV D (cwK q ca nW nB E) (cwK q ca nW nB (f_X3_restart nW nB E))) := by
  refine ent (own := RX3) rfl (by decide) (Nat.le_of_ble_eq_true rfl) ?_
  intro p e s m below meth c A ls X hr hlk hmn hAe hA hP hD hS hl
  have hx := X.1.1
  have hb := X.1.2.1
  have hl : lv_has ls 1 [(0, .ref (q 3))] := hl
  refine lv_aload_n hx hb dX3_restart_0 rfl (lv_at hl 0 rfl) ?_
  refine lv_lconst (v := (0 : Int64)) hx hb dX3_restart_1 (by decide) ?_
  refine pf_X3_7 X hP hD hS (0 : Int64) dX3_restart_2 (fun H locs hP hD hS => ?_)
  refine lv_aload_n hx hb dX3_restart_5 rfl (lv_at hl 0 rfl) ?_
  refine lv_ldc2 (v := (-1 : Int64)) hx hb X.1.2.2.2.1 (X.1.2.2.2.2 _ wd_145) dX3_restart_6 ?_
  refine pf_X3_15 X hP hD hS (-1 : Int64) dX3_restart_9 (fun H locs hP hD hS => ?_)
  exact rku_v (F := (f_X3_restart nW nB E)) (E1 := (klimit_ (ktime_ E (0 : Int64)) (-1 : Int64))) rfl X hP hD hS hAe hr hlk dX3_restart_12
set_option maxHeartbeats 4000000 in
set_option maxRecDepth 100000 in
theorem c_X1_holds (l : Launch) (D : va_G) (q : Nat → Nat) (ca : Nat → ClassId) (nW nB : Nat) (hk : KOk nW nB) (E : KS) (a1 : Int32) : Mt l yX1_holds cX1_holds 2 (some .boolean) 0 D (tysK ca) [.ref (q 1), .int a1] (cwK q ca nW nB E) (QcI D (cwK q ca nW nB E) (cwK q ca nW nB E) (b2i (f_X1_holds nW nB E a1))) := by
  refine ent (own := RX1) rfl (by decide) (Nat.le_of_ble_eq_true rfl) ?_
  intro p e s m below meth c A ls X hr hlk hmn hAe hA hP hD hS hl
  have hx := X.1.1
  have hb := X.1.2.1
  have hl : lv_has ls 2 [(0, .ref (q 1)), (1, .int a1)] := hl
  refine lv_iload_n hx hb dX1_holds_0 rfl (lv_at hl 1 rfl) ?_
  refine lv_if_lt (tgt := 19) hx hb dX1_holds_1 (by decide) (fun c_1 => ?_) (fun c_1 => ?_)
  ·
    refine lv_iconst (v := (0 : Int32)) hx hb dX1_holds_19 (by decide) ?_
    exact rg_z (v := false) (F := (f_X1_holds nW nB E a1)) (by unfold f_X1_holds; rw [if_pos c_1]; try rfl) X hP hD hS hAe hr hlk dX1_holds_20
  ·
    refine lv_iload_n hx hb dX1_holds_4 rfl (lv_at hl 1 rfl) ?_
    refine lv_iconst (v := (2 : Int32)) hx hb dX1_holds_5 (by decide) ?_
    refine lv_ishr hx hb dX1_holds_6 ?_
    refine lv_aload_n hx hb dX1_holds_7 rfl (lv_at hl 0 rfl) ?_
    refine gf_X1_7 X hP dX1_holds_8 ?_
    refine klen_2 X hP dX1_holds_11 ?_
    refine lv_icmp_ge (tgt := 19) hx hb dX1_holds_12 (by decide) (fun c_2 => ?_) (fun c_2 => ?_)
    ·
      refine lv_iconst (v := (0 : Int32)) hx hb dX1_holds_19 (by decide) ?_
      exact rg_z (v := false) (F := (f_X1_holds nW nB E a1)) (by unfold f_X1_holds; rw [if_neg c_1, if_pos c_2]; try rfl) X hP hD hS hAe hr hlk dX1_holds_20
    ·
      refine lv_iconst (v := (1 : Int32)) hx hb dX1_holds_15 (by decide) ?_
      refine lv_goto (tgt := 20) hx hb dX1_holds_16 (by decide) ?_
      exact rg_z (v := true) (F := (f_X1_holds nW nB E a1)) (by unfold f_X1_holds; rw [if_neg c_1, if_neg c_2]; try rfl) X hP hD hS hAe hr hlk dX1_holds_20
set_option maxHeartbeats 4000000 in
set_option maxRecDepth 100000 in
theorem c_X1_mask (l : Launch) (D : va_G) (tys : List (ClassId × FieldType)) (ws : va_W) (a1 : Int32) : Mt l yX1_mask cX1_mask 1 (some .int) 0 D tys [.int a1] ws (QcI D ws ws (f_X1_mask a1)) := by
  refine ent (own := RX1) rfl (by decide) (Nat.le_of_ble_eq_true rfl) ?_
  intro p e s m below meth c A ls X hr hlk hmn hAe hA hP hD hS hl
  have hx := X.1.1
  have hb := X.1.2.1
  have hl : lv_has ls 1 [(0, .int a1)] := hl
  refine lv_iconst (v := (-1 : Int32)) hx hb dX1_mask_0 (by decide) ?_
  refine lv_bipush (v := (32 : Int32)) hx hb dX1_mask_1 (by decide) ?_
  refine lv_bipush (v := (8 : Int32)) hx hb dX1_mask_3 (by decide) ?_
  refine lv_iload_n hx hb dX1_mask_5 rfl (lv_at hl 0 rfl) ?_
  refine lv_imul hx hb dX1_mask_6 ?_
  refine lv_isub hx hb dX1_mask_7 ?_
  refine lv_iushr (v := (jushr (-1 : Int32) ((32 : Int32) - ((8 : Int32) * a1)))) hx hb dX1_mask_8 rfl ?_
  exact rg_i (v := (jushr (-1 : Int32) ((32 : Int32) - ((8 : Int32) * a1)))) (F := (f_X1_mask a1)) rfl X hP hD hS hAe hr hlk dX1_mask_9
set_option maxHeartbeats 4000000 in
set_option maxRecDepth 100000 in
theorem c_X1_shift (l : Launch) (D : va_G) (tys : List (ClassId × FieldType)) (ws : va_W) (a1 : Int32) : Mt l yX1_shift cX1_shift 1 (some .int) 0 D tys [.int a1] ws (QcI D ws ws (f_X1_shift a1)) := by
  refine ent (own := RX1) rfl (by decide) (Nat.le_of_ble_eq_true rfl) ?_
  intro p e s m below meth c A ls X hr hlk hmn hAe hA hP hD hS hl
  have hx := X.1.1
  have hb := X.1.2.1
  have hl : lv_has ls 1 [(0, .int a1)] := hl
  refine lv_iload_n hx hb dX1_shift_0 rfl (lv_at hl 0 rfl) ?_
  refine lv_iconst (v := (3 : Int32)) hx hb dX1_shift_1 (by decide) ?_
  refine lv_iand hx hb dX1_shift_2 ?_
  refine lv_bipush (v := (8 : Int32)) hx hb dX1_shift_3 (by decide) ?_
  refine lv_imul hx hb dX1_shift_5 ?_
  exact rg_i (v := ((a1 &&& (3 : Int32)) * (8 : Int32))) (F := (f_X1_shift a1)) rfl X hP hD hS hAe hr hlk dX1_shift_6
set_option maxHeartbeats 4000000 in
set_option maxRecDepth 100000 in
theorem c_X1_put (l : Launch) (D : va_G) (q : Nat → Nat) (ca : Nat → ClassId) (nW nB : Nat) (hk : KOk nW nB) (E : KS) (a1 : Int32) (a2 : Int32) (a3 : Int32) (hi : vp_in (a1 >>> ((2 : Int32) &&& 31)) nW) : Mt l yX1_put cX1_put 6 none 1 D (tysK ca) [.ref (q 1), .int a1, .int a2, .int a3] (cwK q ca nW nB E) (QcV D (cwK q ca nW nB E) (cwK q ca nW nB (f_X1_put nW nB E a1 a2 a3))) := by
  refine ent (own := RX1) rfl (by decide) (Nat.le_of_ble_eq_true rfl) ?_
  intro p e s m below meth c A ls X hr hlk hmn hAe hA hP hD hS hl
  have hx := X.1.1
  have hb := X.1.2.1
  have hl : lv_has ls 6 [(0, .ref (q 1)), (1, .int a1), (2, .int a2), (3, .int a3)] := hl
  refine lv_iload_n hx hb dX1_put_0 rfl (lv_at hl 2 rfl) ?_
  refine go_i (rn_S X (c_X1_mask l D _ _ a2) ok_X1_mask wd_195 ⟨by decide, by decide⟩ hP hD rfl hl.1 rfl (Nat.le_of_ble_eq_true rfl) dX1_put_1 ⟨Nat.zero_le _, Nat.zero_le _⟩) hP hD hS hA (fun H locs hP hD hS => ?_)
  refine lv_iload_n hx hb dX1_put_4 rfl (lv_at hl 1 rfl) ?_
  refine go_i (rn_S X (c_X1_shift l D _ _ a1) ok_X1_shift wd_198 ⟨by decide, by decide⟩ hP hD rfl hl.1 rfl (Nat.le_of_ble_eq_true rfl) dX1_put_5 ⟨Nat.zero_le _, Nat.zero_le _⟩) hP hD hS hA (fun H locs hP hD hS => ?_)
  refine lv_ishl hx hb dX1_put_8 ?_
  refine lv_istore (lv' := [(4, .int ((f_X1_mask a2) <<< ((f_X1_shift a1) &&& 31))), (0, .ref (q 1)), (1, .int a1), (2, .int a2), (3, .int a3)]) hx hb dX1_put_9 hl (by decide) rfl (fun ls hl => ?_)
  refine lv_aload_n hx hb dX1_put_11 rfl (lv_at hl 1 rfl) ?_
  refine gf_X1_7 X hP dX1_put_12 ?_
  refine lv_iload_n hx hb dX1_put_15 rfl (lv_at hl 2 rfl) ?_
  refine lv_iconst (v := (2 : Int32)) hx hb dX1_put_16 (by decide) ?_
  refine lv_ishr hx hb dX1_put_17 ?_
  refine kld_2 X hP hi dX1_put_18 ?_
  refine lv_iload hx hb dX1_put_19 (lv_at hl 0 rfl) ?_
  refine lv_iconst (v := (-1 : Int32)) hx hb dX1_put_21 (by decide) ?_
  refine lv_ixor hx hb dX1_put_22 ?_
  refine lv_iand hx hb dX1_put_23 ?_
  refine lv_istore (lv' := [(5, .int ((kwords E ((a1 >>> ((2 : Int32) &&& 31))).toNatClampNeg) &&& (((f_X1_mask a2) <<< ((f_X1_shift a1) &&& 31)) ^^^ (-1 : Int32)))), (4, .int ((f_X1_mask a2) <<< ((f_X1_shift a1) &&& 31))), (0, .ref (q 1)), (1, .int a1), (2, .int a2), (3, .int a3)]) hx hb dX1_put_24 hl (by decide) rfl (fun ls hl => ?_)
  refine lv_aload_n hx hb dX1_put_26 rfl (lv_at hl 2 rfl) ?_
  refine gf_X1_7 X hP dX1_put_27 ?_
  refine lv_iload_n hx hb dX1_put_30 rfl (lv_at hl 3 rfl) ?_
  refine lv_iconst (v := (2 : Int32)) hx hb dX1_put_31 (by decide) ?_
  refine lv_ishr hx hb dX1_put_32 ?_
  refine lv_iload hx hb dX1_put_33 (lv_at hl 0 rfl) ?_
  refine lv_iload_n hx hb dX1_put_35 rfl (lv_at hl 5 rfl) ?_
  refine lv_iload_n hx hb dX1_put_36 rfl (lv_at hl 3 rfl) ?_
  refine go_i (rn_S X (c_X1_shift l D _ _ a1) ok_X1_shift wd_198 ⟨by decide, by decide⟩ hP hD rfl hl.1 rfl (Nat.le_of_ble_eq_true rfl) dX1_put_37 ⟨Nat.zero_le _, Nat.zero_le _⟩) hP hD hS hA (fun H locs hP hD hS => ?_)
  refine lv_ishl hx hb dX1_put_40 ?_
  refine lv_iload hx hb dX1_put_41 (lv_at hl 1 rfl) ?_
  refine lv_iand hx hb dX1_put_43 ?_
  refine lv_ior hx hb dX1_put_44 ?_
  refine kst_2 X hP hD hS hi dX1_put_45 (fun H locs hP hD hS => ?_)
  exact rku_v (F := (f_X1_put nW nB E a1 a2 a3)) (E1 := (kwords_ E (upd (kwords E) ((a1 >>> ((2 : Int32) &&& 31))).toNatClampNeg (((kwords E ((a1 >>> ((2 : Int32) &&& 31))).toNatClampNeg) &&& (((f_X1_mask a2) <<< ((f_X1_shift a1) &&& 31)) ^^^ (-1 : Int32))) ||| ((a3 <<< ((f_X1_shift a1) &&& 31)) &&& ((f_X1_mask a2) <<< ((f_X1_shift a1) &&& 31))))))) rfl X hP hD hS hAe hr hlk dX1_put_46
set_option maxHeartbeats 4000000 in
set_option maxRecDepth 100000 in
theorem c_X4_load (l : Launch) (D : va_G) (q : Nat → Nat) (ca : Nat → ClassId) (nW nB : Nat) (hk : KOk nW nB) (E : KS) (a1 : Int32) (a2 : Int32) : Mt l yX4_load cX4_load 4 (some .boolean) 2 D (tysK ca) [.ref (q 0), .int a1, .int a2] (cwK q ca nW nB E) (QcI D (cwK q ca nW nB E) (cwK q ca nW nB (f_X4_load nW nB E a1 a2).2) (b2i (f_X4_load nW nB E a1 a2).1)) := by
  refine ent (own := RX4) rfl (by decide) (Nat.le_of_ble_eq_true rfl) ?_
  intro p e s m below meth c A ls X hr hlk hmn hAe hA hP hD hS hl
  have hx := X.1.1
  have hb := X.1.2.1
  have hl : lv_has ls 4 [(0, .ref (q 0)), (1, .int a1), (2, .int a2)] := hl
  refine lv_aload_n hx hb dX4_load_0 rfl (lv_at hl 0 rfl) ?_
  refine gf_X4_24 X hP dX4_load_1 ?_
  refine lv_iload_n hx hb dX4_load_4 rfl (lv_at hl 1 rfl) ?_
  refine go_i (rn_V (ci := 1) (q0 := 1) X (c_X1_holds l D q ca nW nB hk E a1) ok_X1_holds wd_187 ⟨by decide, by decide⟩ hP hD rfl rfl rfl hl.1 rfl (Nat.le_of_ble_eq_true rfl) dX4_load_5 ⟨Nat.zero_le _, Nat.zero_le _⟩) hP hD hS hA (fun H locs hP hD hS => ?_)
  refine lv_if_eq (tgt := 24) hx hb dX4_load_8 (by decide) (fun c_1 => ?_) (fun c_1 => ?_)
  ·
    refine lv_iconst (v := (0 : Int32)) hx hb dX4_load_24 (by decide) ?_
    exact rku_z (v := false) (F := (f_X4_load nW nB E a1 a2)) (E1 := E) (by unfold f_X4_load; rw [if_pos c_1]; try rfl) X hP hD hS hAe hr hlk dX4_load_25
  ·
    refine lv_aload_n hx hb dX4_load_11 rfl (lv_at hl 0 rfl) ?_
    refine gf_X4_24 X hP dX4_load_12 ?_
    refine lv_iload_n hx hb dX4_load_15 rfl (lv_at hl 1 rfl) ?_
    refine lv_iconst (v := (3 : Int32)) hx hb dX4_load_16 (by decide) ?_
    refine lv_iadd hx hb dX4_load_17 ?_
    refine go_i (rn_V (ci := 1) (q0 := 1) X (c_X1_holds l D q ca nW nB hk E (a1 + (3 : Int32))) ok_X1_holds wd_187 ⟨by decide, by decide⟩ hP hD rfl rfl rfl hl.1 rfl (Nat.le_of_ble_eq_true rfl) dX4_load_18 ⟨Nat.zero_le _, Nat.zero_le _⟩) hP hD hS hA (fun H locs hP hD hS => ?_)
    refine lv_if_ne (tgt := 26) hx hb dX4_load_21 (by decide) (fun c_2 => ?_) (fun c_2 => ?_)
    ·
      refine lv_iconst (v := (0 : Int32)) hx hb dX4_load_26 (by decide) ?_
      refine lv_istore_n (lv' := [(3, .int (0 : Int32)), (0, .ref (q 0)), (1, .int a1), (2, .int a2)]) hx hb dX4_load_27 rfl hl (by decide) rfl (fun ls hl => ?_)
      refine lv_iload_n hx hb dX4_load_28 rfl (lv_at hl 0 rfl) ?_
      refine lv_iconst (v := (4 : Int32)) hx hb dX4_load_29 (by decide) ?_
      refine lv_icmp_ge (tgt := 56) hx hb dX4_load_30 (by decide) (fun h => absurd h (by decide)) (fun _ => ?_)
      refine lv_aload_n hx hb dX4_load_33 rfl (lv_at hl 1 rfl) ?_
      refine gf_X4_24 X hP dX4_load_34 ?_
      refine lv_iload_n hx hb dX4_load_37 rfl (lv_at hl 2 rfl) ?_
      refine lv_iload_n hx hb dX4_load_38 rfl (lv_at hl 0 rfl) ?_
      refine lv_iadd hx hb dX4_load_39 ?_
      refine lv_iconst (v := (1 : Int32)) hx hb dX4_load_40 (by decide) ?_
      refine lv_iload_n hx hb dX4_load_41 rfl (lv_at hl 3 rfl) ?_
      refine lv_bipush (v := (8 : Int32)) hx hb dX4_load_42 (by decide) ?_
      refine lv_iload_n hx hb dX4_load_44 rfl (lv_at hl 0 rfl) ?_
      refine lv_imul hx hb dX4_load_45 ?_
      refine lv_iushr (v := (jushr a2 ((8 : Int32) * (0 : Int32)))) hx hb dX4_load_46 rfl ?_
      refine go_v (rn_V (ci := 1) (q0 := 1) X (c_X1_put l D q ca nW nB hk E (a1 + (0 : Int32)) (1 : Int32) (jushr a2 ((8 : Int32) * (0 : Int32))) (in_of_load hk c_1 c_2 (by decide) (by decide))) ok_X1_put wd_191 ⟨by decide, by decide⟩ hP hD rfl rfl rfl hl.1 rfl (Nat.le_of_ble_eq_true rfl) dX4_load_47 ⟨Nat.zero_le _, Nat.zero_le _⟩) hP hD hS hA (fun H locs hP hD hS => ?_)
      refine lv_iinc (v := (1 : Int32)) (lv' := [(3, .int (1 : Int32)), (0, .ref (q 0)), (1, .int a1), (2, .int a2)]) hx hb dX4_load_50 hl (k := 0) rfl (by decide) (by decide) rfl (fun ls hl => ?_)
      refine lv_goto (tgt := 28) hx hb dX4_load_53 (by decide) ?_
      refine lv_iload_n hx hb dX4_load_28 rfl (lv_at hl 0 rfl) ?_
      refine lv_iconst (v := (4 : Int32)) hx hb dX4_load_29 (by decide) ?_
      refine lv_icmp_ge (tgt := 56) hx hb dX4_load_30 (by decide) (fun h => absurd h (by decide)) (fun _ => ?_)
      refine lv_aload_n hx hb dX4_load_33 rfl (lv_at hl 1 rfl) ?_
      refine gf_X4_24 X hP dX4_load_34 ?_
      refine lv_iload_n hx hb dX4_load_37 rfl (lv_at hl 2 rfl) ?_
      refine lv_iload_n hx hb dX4_load_38 rfl (lv_at hl 0 rfl) ?_
      refine lv_iadd hx hb dX4_load_39 ?_
      refine lv_iconst (v := (1 : Int32)) hx hb dX4_load_40 (by decide) ?_
      refine lv_iload_n hx hb dX4_load_41 rfl (lv_at hl 3 rfl) ?_
      refine lv_bipush (v := (8 : Int32)) hx hb dX4_load_42 (by decide) ?_
      refine lv_iload_n hx hb dX4_load_44 rfl (lv_at hl 0 rfl) ?_
      refine lv_imul hx hb dX4_load_45 ?_
      refine lv_iushr (v := (jushr a2 ((8 : Int32) * (1 : Int32)))) hx hb dX4_load_46 rfl ?_
      refine go_v (rn_V (ci := 1) (q0 := 1) X (c_X1_put l D q ca nW nB hk (f_X1_put nW nB E (a1 + (0 : Int32)) (1 : Int32) (jushr a2 ((8 : Int32) * (0 : Int32)))) (a1 + (1 : Int32)) (1 : Int32) (jushr a2 ((8 : Int32) * (1 : Int32))) (in_of_load hk c_1 c_2 (by decide) (by decide))) ok_X1_put wd_191 ⟨by decide, by decide⟩ hP hD rfl rfl rfl hl.1 rfl (Nat.le_of_ble_eq_true rfl) dX4_load_47 ⟨Nat.zero_le _, Nat.zero_le _⟩) hP hD hS hA (fun H locs hP hD hS => ?_)
      refine lv_iinc (v := (2 : Int32)) (lv' := [(3, .int (2 : Int32)), (0, .ref (q 0)), (1, .int a1), (2, .int a2)]) hx hb dX4_load_50 hl (k := 0) rfl (by decide) (by decide) rfl (fun ls hl => ?_)
      refine lv_goto (tgt := 28) hx hb dX4_load_53 (by decide) ?_
      refine lv_iload_n hx hb dX4_load_28 rfl (lv_at hl 0 rfl) ?_
      refine lv_iconst (v := (4 : Int32)) hx hb dX4_load_29 (by decide) ?_
      refine lv_icmp_ge (tgt := 56) hx hb dX4_load_30 (by decide) (fun h => absurd h (by decide)) (fun _ => ?_)
      refine lv_aload_n hx hb dX4_load_33 rfl (lv_at hl 1 rfl) ?_
      refine gf_X4_24 X hP dX4_load_34 ?_
      refine lv_iload_n hx hb dX4_load_37 rfl (lv_at hl 2 rfl) ?_
      refine lv_iload_n hx hb dX4_load_38 rfl (lv_at hl 0 rfl) ?_
      refine lv_iadd hx hb dX4_load_39 ?_
      refine lv_iconst (v := (1 : Int32)) hx hb dX4_load_40 (by decide) ?_
      refine lv_iload_n hx hb dX4_load_41 rfl (lv_at hl 3 rfl) ?_
      refine lv_bipush (v := (8 : Int32)) hx hb dX4_load_42 (by decide) ?_
      refine lv_iload_n hx hb dX4_load_44 rfl (lv_at hl 0 rfl) ?_
      refine lv_imul hx hb dX4_load_45 ?_
      refine lv_iushr (v := (jushr a2 ((8 : Int32) * (2 : Int32)))) hx hb dX4_load_46 rfl ?_
      refine go_v (rn_V (ci := 1) (q0 := 1) X (c_X1_put l D q ca nW nB hk (f_X1_put nW nB (f_X1_put nW nB E (a1 + (0 : Int32)) (1 : Int32) (jushr a2 ((8 : Int32) * (0 : Int32)))) (a1 + (1 : Int32)) (1 : Int32) (jushr a2 ((8 : Int32) * (1 : Int32)))) (a1 + (2 : Int32)) (1 : Int32) (jushr a2 ((8 : Int32) * (2 : Int32))) (in_of_load hk c_1 c_2 (by decide) (by decide))) ok_X1_put wd_191 ⟨by decide, by decide⟩ hP hD rfl rfl rfl hl.1 rfl (Nat.le_of_ble_eq_true rfl) dX4_load_47 ⟨Nat.zero_le _, Nat.zero_le _⟩) hP hD hS hA (fun H locs hP hD hS => ?_)
      refine lv_iinc (v := (3 : Int32)) (lv' := [(3, .int (3 : Int32)), (0, .ref (q 0)), (1, .int a1), (2, .int a2)]) hx hb dX4_load_50 hl (k := 0) rfl (by decide) (by decide) rfl (fun ls hl => ?_)
      refine lv_goto (tgt := 28) hx hb dX4_load_53 (by decide) ?_
      refine lv_iload_n hx hb dX4_load_28 rfl (lv_at hl 0 rfl) ?_
      refine lv_iconst (v := (4 : Int32)) hx hb dX4_load_29 (by decide) ?_
      refine lv_icmp_ge (tgt := 56) hx hb dX4_load_30 (by decide) (fun h => absurd h (by decide)) (fun _ => ?_)
      refine lv_aload_n hx hb dX4_load_33 rfl (lv_at hl 1 rfl) ?_
      refine gf_X4_24 X hP dX4_load_34 ?_
      refine lv_iload_n hx hb dX4_load_37 rfl (lv_at hl 2 rfl) ?_
      refine lv_iload_n hx hb dX4_load_38 rfl (lv_at hl 0 rfl) ?_
      refine lv_iadd hx hb dX4_load_39 ?_
      refine lv_iconst (v := (1 : Int32)) hx hb dX4_load_40 (by decide) ?_
      refine lv_iload_n hx hb dX4_load_41 rfl (lv_at hl 3 rfl) ?_
      refine lv_bipush (v := (8 : Int32)) hx hb dX4_load_42 (by decide) ?_
      refine lv_iload_n hx hb dX4_load_44 rfl (lv_at hl 0 rfl) ?_
      refine lv_imul hx hb dX4_load_45 ?_
      refine lv_iushr (v := (jushr a2 ((8 : Int32) * (3 : Int32)))) hx hb dX4_load_46 rfl ?_
      refine go_v (rn_V (ci := 1) (q0 := 1) X (c_X1_put l D q ca nW nB hk (f_X1_put nW nB (f_X1_put nW nB (f_X1_put nW nB E (a1 + (0 : Int32)) (1 : Int32) (jushr a2 ((8 : Int32) * (0 : Int32)))) (a1 + (1 : Int32)) (1 : Int32) (jushr a2 ((8 : Int32) * (1 : Int32)))) (a1 + (2 : Int32)) (1 : Int32) (jushr a2 ((8 : Int32) * (2 : Int32)))) (a1 + (3 : Int32)) (1 : Int32) (jushr a2 ((8 : Int32) * (3 : Int32))) (in_of_load hk c_1 c_2 (by decide) (by decide))) ok_X1_put wd_191 ⟨by decide, by decide⟩ hP hD rfl rfl rfl hl.1 rfl (Nat.le_of_ble_eq_true rfl) dX4_load_47 ⟨Nat.zero_le _, Nat.zero_le _⟩) hP hD hS hA (fun H locs hP hD hS => ?_)
      refine lv_iinc (v := (4 : Int32)) (lv' := [(3, .int (4 : Int32)), (0, .ref (q 0)), (1, .int a1), (2, .int a2)]) hx hb dX4_load_50 hl (k := 0) rfl (by decide) (by decide) rfl (fun ls hl => ?_)
      refine lv_goto (tgt := 28) hx hb dX4_load_53 (by decide) ?_
      refine lv_iload_n hx hb dX4_load_28 rfl (lv_at hl 0 rfl) ?_
      refine lv_iconst (v := (4 : Int32)) hx hb dX4_load_29 (by decide) ?_
      refine lv_icmp_ge (tgt := 56) hx hb dX4_load_30 (by decide) (fun _ => ?_) (fun h => absurd (by decide) h)
      refine lv_iconst (v := (1 : Int32)) hx hb dX4_load_56 (by decide) ?_
      exact rku_z (v := true) (F := (f_X4_load nW nB E a1 a2)) (E1 := (f_X1_put nW nB (f_X1_put nW nB (f_X1_put nW nB (f_X1_put nW nB E (a1 + (0 : Int32)) (1 : Int32) (jushr a2 ((8 : Int32) * (0 : Int32)))) (a1 + (1 : Int32)) (1 : Int32) (jushr a2 ((8 : Int32) * (1 : Int32)))) (a1 + (2 : Int32)) (1 : Int32) (jushr a2 ((8 : Int32) * (2 : Int32)))) (a1 + (3 : Int32)) (1 : Int32) (jushr a2 ((8 : Int32) * (3 : Int32))))) (by unfold f_X4_load; rw [if_neg c_1, if_neg c_2]; try rfl) X hP hD hS hAe hr hlk dX4_load_57
    ·
      refine lv_iconst (v := (0 : Int32)) hx hb dX4_load_24 (by decide) ?_
      exact rku_z (v := false) (F := (f_X4_load nW nB E a1 a2)) (E1 := E) (by unfold f_X4_load; rw [if_neg c_1, if_pos c_2]; try rfl) X hP hD hS hAe hr hlk dX4_load_25
set_option maxHeartbeats 4000000 in
set_option maxRecDepth 100000 in
theorem c_X2_byteAt (l : Launch) (D : va_G) (q : Nat → Nat) (ca : Nat → ClassId) (nW nB : Nat) (hk : KOk nW nB) (E : KS) (a1 : Int32) : Mt l yX2_byteAt cX2_byteAt 2 (some .int) 0 D (tysK ca) [.ref (q 4), .int a1] (cwK q ca nW nB E) (QcI D (cwK q ca nW nB E) (cwK q ca nW nB E) (f_X2_byteAt nW nB E a1)) := by
  refine ent (own := RX2) rfl (by decide) (Nat.le_of_ble_eq_true rfl) ?_
  intro p e s m below meth c A ls X hr hlk hmn hAe hA hP hD hS hl
  have hx := X.1.1
  have hb := X.1.2.1
  have hl : lv_has ls 2 [(0, .ref (q 4)), (1, .int a1)] := hl
  refine lv_iload_n hx hb dX2_byteAt_0 rfl (lv_at hl 1 rfl) ?_
  refine lv_if_lt (tgt := 34) hx hb dX2_byteAt_1 (by decide) (fun c_1 => ?_) (fun c_1 => ?_)
  ·
    refine lv_iconst (v := (-1 : Int32)) hx hb dX2_byteAt_34 (by decide) ?_
    exact rg_i (v := (-1 : Int32)) (F := (f_X2_byteAt nW nB E a1)) (by unfold f_X2_byteAt; rw [if_pos c_1]; try rfl) X hP hD hS hAe hr hlk dX2_byteAt_35
  ·
    refine lv_iload_n hx hb dX2_byteAt_4 rfl (lv_at hl 1 rfl) ?_
    refine lv_aload_n hx hb dX2_byteAt_5 rfl (lv_at hl 0 rfl) ?_
    refine gf_X2_13 X hP dX2_byteAt_6 ?_
    refine lv_icmp_ge (tgt := 34) hx hb dX2_byteAt_9 (by decide) (fun c_2 => ?_) (fun c_2 => ?_)
    ·
      refine lv_iconst (v := (-1 : Int32)) hx hb dX2_byteAt_34 (by decide) ?_
      exact rg_i (v := (-1 : Int32)) (F := (f_X2_byteAt nW nB E a1)) (by unfold f_X2_byteAt; rw [if_neg c_1, if_pos c_2]; try rfl) X hP hD hS hAe hr hlk dX2_byteAt_35
    ·
      refine lv_iload_n hx hb dX2_byteAt_12 rfl (lv_at hl 1 rfl) ?_
      refine lv_aload_n hx hb dX2_byteAt_13 rfl (lv_at hl 0 rfl) ?_
      refine gf_X2_7 X hP dX2_byteAt_14 ?_
      refine klen_5 X hP dX2_byteAt_17 ?_
      refine lv_icmp_ge (tgt := 34) hx hb dX2_byteAt_18 (by decide) (fun c_3 => ?_) (fun c_3 => ?_)
      ·
        refine lv_iconst (v := (-1 : Int32)) hx hb dX2_byteAt_34 (by decide) ?_
        exact rg_i (v := (-1 : Int32)) (F := (f_X2_byteAt nW nB E a1)) (by unfold f_X2_byteAt; rw [if_neg c_1, if_neg c_2, if_pos c_3]; try rfl) X hP hD hS hAe hr hlk dX2_byteAt_35
      ·
        refine lv_aload_n hx hb dX2_byteAt_21 rfl (lv_at hl 0 rfl) ?_
        refine gf_X2_7 X hP dX2_byteAt_22 ?_
        refine lv_iload_n hx hb dX2_byteAt_25 rfl (lv_at hl 1 rfl) ?_
        refine kld_5 X hP (in_of_nle c_1 c_3 hk.2) dX2_byteAt_26 ?_
        refine lv_sipush (v := (255 : Int32)) hx hb dX2_byteAt_27 (by decide) ?_
        refine lv_iand hx hb dX2_byteAt_30 ?_
        refine lv_goto (tgt := 35) hx hb dX2_byteAt_31 (by decide) ?_
        exact rg_i (v := ((kbytes E (a1).toNatClampNeg) &&& (255 : Int32))) (F := (f_X2_byteAt nW nB E a1)) (by unfold f_X2_byteAt; rw [if_neg c_1, if_neg c_2, if_neg c_3]; try rfl) X hP hD hS hAe hr hlk dX2_byteAt_35
set_option maxHeartbeats 4000000 in
set_option maxRecDepth 100000 in
theorem c_X4_out (l : Launch) (D : va_G) (q : Nat → Nat) (ca : Nat → ClassId) (nW nB : Nat) (hk : KOk nW nB) (E : KS) (a1 : Int32) : Mt l yX4_out cX4_out 2 (some .int) 1 D (tysK ca) [.ref (q 0), .int a1] (cwK q ca nW nB E) (QcI D (cwK q ca nW nB E) (cwK q ca nW nB E) (f_X4_out nW nB E a1)) := by
  refine ent (own := RX4) rfl (by decide) (Nat.le_of_ble_eq_true rfl) ?_
  intro p e s m below meth c A ls X hr hlk hmn hAe hA hP hD hS hl
  have hx := X.1.1
  have hb := X.1.2.1
  have hl : lv_has ls 2 [(0, .ref (q 0)), (1, .int a1)] := hl
  refine lv_aload_n hx hb dX4_out_0 rfl (lv_at hl 0 rfl) ?_
  refine gf_X4_38 X hP dX4_out_1 ?_
  refine lv_iload_n hx hb dX4_out_4 rfl (lv_at hl 1 rfl) ?_
  refine go_i (rn_V (ci := 2) (q0 := 4) X (c_X2_byteAt l D q ca nW nB hk E a1) ok_X2_byteAt wd_450 ⟨by decide, by decide⟩ hP hD rfl rfl rfl hl.1 rfl (Nat.le_of_ble_eq_true rfl) dX4_out_5 ⟨Nat.zero_le _, Nat.zero_le _⟩) hP hD hS hA (fun H locs hP hD hS => ?_)
  exact rg_i (v := (f_X2_byteAt nW nB E a1)) (F := (f_X4_out nW nB E a1)) rfl X hP hD hS hAe hr hlk dX4_out_8
set_option maxHeartbeats 4000000 in
set_option maxRecDepth 100000 in
theorem c_X4_outSize (l : Launch) (D : va_G) (q : Nat → Nat) (ca : Nat → ClassId) (nW nB : Nat) (hk : KOk nW nB) (E : KS) : Mt l yX4_outSize cX4_outSize 1 (some .int) 0 D (tysK ca) [.ref (q 0)] (cwK q ca nW nB E) (QcI D (cwK q ca nW nB E) (cwK q ca nW nB E) (f_X4_outSize nW nB E)) := by
  refine ent (own := RX4) rfl (by decide) (Nat.le_of_ble_eq_true rfl) ?_
  intro p e s m below meth c A ls X hr hlk hmn hAe hA hP hD hS hl
  have hx := X.1.1
  have hb := X.1.2.1
  have hl : lv_has ls 1 [(0, .ref (q 0))] := hl
  refine lv_aload_n hx hb dX4_outSize_0 rfl (lv_at hl 0 rfl) ?_
  refine gf_X4_38 X hP dX4_outSize_1 ?_
  refine gf_X4_111 X hP dX4_outSize_4 ?_
  exact rg_i (v := (ksent E)) (F := (f_X4_outSize nW nB E)) rfl X hP hD hS hAe hr hlk dX4_outSize_7
set_option maxHeartbeats 4000000 in
set_option maxRecDepth 100000 in
theorem c_X4_pc (l : Launch) (D : va_G) (q : Nat → Nat) (ca : Nat → ClassId) (nW nB : Nat) (hk : KOk nW nB) (E : KS) : Mt l yX4_pc cX4_pc 1 (some .int) 0 D (tysK ca) [.ref (q 0)] (cwK q ca nW nB E) (QcI D (cwK q ca nW nB E) (cwK q ca nW nB E) (f_X4_pc nW nB E)) := by
  refine ent (own := RX4) rfl (by decide) (Nat.le_of_ble_eq_true rfl) ?_
  intro p e s m below meth c A ls X hr hlk hmn hAe hA hP hD hS hl
  have hx := X.1.1
  have hb := X.1.2.1
  have hl : lv_has ls 1 [(0, .ref (q 0))] := hl
  refine lv_aload_n hx hb dX4_pc_0 rfl (lv_at hl 0 rfl) ?_
  refine gf_X4_56 X hP dX4_pc_1 ?_
  exact rg_i (v := (kplace E)) (F := (f_X4_pc nW nB E)) rfl X hP hD hS hAe hr hlk dX4_pc_4
set_option maxHeartbeats 4000000 in
set_option maxRecDepth 100000 in
theorem c_X1_get (l : Launch) (D : va_G) (q : Nat → Nat) (ca : Nat → ClassId) (nW nB : Nat) (hk : KOk nW nB) (E : KS) (a1 : Int32) (a2 : Int32) (hi : vp_in (a1 >>> ((2 : Int32) &&& 31)) nW) : Mt l yX1_get cX1_get 3 (some .int) 1 D (tysK ca) [.ref (q 1), .int a1, .int a2] (cwK q ca nW nB E) (QcI D (cwK q ca nW nB E) (cwK q ca nW nB E) (f_X1_get nW nB E a1 a2)) := by
  refine ent (own := RX1) rfl (by decide) (Nat.le_of_ble_eq_true rfl) ?_
  intro p e s m below meth c A ls X hr hlk hmn hAe hA hP hD hS hl
  have hx := X.1.1
  have hb := X.1.2.1
  have hl : lv_has ls 3 [(0, .ref (q 1)), (1, .int a1), (2, .int a2)] := hl
  refine lv_aload_n hx hb dX1_get_0 rfl (lv_at hl 0 rfl) ?_
  refine gf_X1_7 X hP dX1_get_1 ?_
  refine lv_iload_n hx hb dX1_get_4 rfl (lv_at hl 1 rfl) ?_
  refine lv_iconst (v := (2 : Int32)) hx hb dX1_get_5 (by decide) ?_
  refine lv_ishr hx hb dX1_get_6 ?_
  refine kld_2 X hP hi dX1_get_7 ?_
  refine lv_iload_n hx hb dX1_get_8 rfl (lv_at hl 1 rfl) ?_
  refine go_i (rn_S X (c_X1_shift l D _ _ a1) ok_X1_shift wd_198 ⟨by decide, by decide⟩ hP hD rfl hl.1 rfl (Nat.le_of_ble_eq_true rfl) dX1_get_9 ⟨Nat.zero_le _, Nat.zero_le _⟩) hP hD hS hA (fun H locs hP hD hS => ?_)
  refine lv_iushr (v := (jushr (kwords E ((a1 >>> ((2 : Int32) &&& 31))).toNatClampNeg) (f_X1_shift a1))) hx hb dX1_get_12 rfl ?_
  refine lv_iload_n hx hb dX1_get_13 rfl (lv_at hl 2 rfl) ?_
  refine go_i (rn_S X (c_X1_mask l D _ _ a2) ok_X1_mask wd_195 ⟨by decide, by decide⟩ hP hD rfl hl.1 rfl (Nat.le_of_ble_eq_true rfl) dX1_get_14 ⟨Nat.zero_le _, Nat.zero_le _⟩) hP hD hS hA (fun H locs hP hD hS => ?_)
  refine lv_iand hx hb dX1_get_17 ?_
  exact rg_i (v := ((jushr (kwords E ((a1 >>> ((2 : Int32) &&& 31))).toNatClampNeg) (f_X1_shift a1)) &&& (f_X1_mask a2))) (F := (f_X1_get nW nB E a1 a2)) rfl X hP hD hS hAe hr hlk dX1_get_18
set_option maxHeartbeats 4000000 in
set_option maxRecDepth 100000 in
theorem c_X4_peek (l : Launch) (D : va_G) (q : Nat → Nat) (ca : Nat → ClassId) (nW nB : Nat) (hk : KOk nW nB) (E : KS) (a1 : Int32) : Mt l yX4_peek cX4_peek 2 (some .int) 2 D (tysK ca) [.ref (q 0), .int a1] (cwK q ca nW nB E) (QcI D (cwK q ca nW nB E) (cwK q ca nW nB E) (f_X4_peek nW nB E a1)) := by
  refine ent (own := RX4) rfl (by decide) (Nat.le_of_ble_eq_true rfl) ?_
  intro p e s m below meth c A ls X hr hlk hmn hAe hA hP hD hS hl
  have hx := X.1.1
  have hb := X.1.2.1
  have hl : lv_has ls 2 [(0, .ref (q 0)), (1, .int a1)] := hl
  refine lv_aload_n hx hb dX4_peek_0 rfl (lv_at hl 0 rfl) ?_
  refine gf_X4_24 X hP dX4_peek_1 ?_
  refine lv_iload_n hx hb dX4_peek_4 rfl (lv_at hl 1 rfl) ?_
  refine go_i (rn_V (ci := 1) (q0 := 1) X (c_X1_holds l D q ca nW nB hk E a1) ok_X1_holds wd_187 ⟨by decide, by decide⟩ hP hD rfl rfl rfl hl.1 rfl (Nat.le_of_ble_eq_true rfl) dX4_peek_5 ⟨Nat.zero_le _, Nat.zero_le _⟩) hP hD hS hA (fun H locs hP hD hS => ?_)
  refine lv_if_eq (tgt := 23) hx hb dX4_peek_8 (by decide) (fun c_1 => ?_) (fun c_1 => ?_)
  ·
    refine lv_iconst (v := (-1 : Int32)) hx hb dX4_peek_23 (by decide) ?_
    exact rg_i (v := (-1 : Int32)) (F := (f_X4_peek nW nB E a1)) (by unfold f_X4_peek; rw [if_pos c_1]; try rfl) X hP hD hS hAe hr hlk dX4_peek_24
  ·
    refine lv_aload_n hx hb dX4_peek_11 rfl (lv_at hl 0 rfl) ?_
    refine gf_X4_24 X hP dX4_peek_12 ?_
    refine lv_iload_n hx hb dX4_peek_15 rfl (lv_at hl 1 rfl) ?_
    refine lv_iconst (v := (1 : Int32)) hx hb dX4_peek_16 (by decide) ?_
    refine go_i (rn_V (ci := 1) (q0 := 1) X (c_X1_get l D q ca nW nB hk E a1 (1 : Int32) (in_of_holds hk c_1)) ok_X1_get wd_209 ⟨by decide, by decide⟩ hP hD rfl rfl rfl hl.1 rfl (Nat.le_of_ble_eq_true rfl) dX4_peek_17 ⟨Nat.zero_le _, Nat.zero_le _⟩) hP hD hS hA (fun H locs hP hD hS => ?_)
    refine lv_goto (tgt := 24) hx hb dX4_peek_20 (by decide) ?_
    exact rg_i (v := (f_X1_get nW nB E a1 (1 : Int32))) (F := (f_X4_peek nW nB E a1)) (by unfold f_X4_peek; rw [if_neg c_1]; try rfl) X hP hD hS hAe hr hlk dX4_peek_24
set_option maxHeartbeats 4000000 in
set_option maxRecDepth 100000 in
theorem c_X4_poke (l : Launch) (D : va_G) (q : Nat → Nat) (ca : Nat → ClassId) (nW nB : Nat) (hk : KOk nW nB) (E : KS) (a1 : Int32) (a2 : Int32) : Mt l yX4_poke cX4_poke 3 (some .boolean) 2 D (tysK ca) [.ref (q 0), .int a1, .int a2] (cwK q ca nW nB E) (QcI D (cwK q ca nW nB E) (cwK q ca nW nB (f_X4_poke nW nB E a1 a2).2) (b2i (f_X4_poke nW nB E a1 a2).1)) := by
  refine ent (own := RX4) rfl (by decide) (Nat.le_of_ble_eq_true rfl) ?_
  intro p e s m below meth c A ls X hr hlk hmn hAe hA hP hD hS hl
  have hx := X.1.1
  have hb := X.1.2.1
  have hl : lv_has ls 3 [(0, .ref (q 0)), (1, .int a1), (2, .int a2)] := hl
  refine lv_aload_n hx hb dX4_poke_0 rfl (lv_at hl 0 rfl) ?_
  refine gf_X4_24 X hP dX4_poke_1 ?_
  refine lv_iload_n hx hb dX4_poke_4 rfl (lv_at hl 1 rfl) ?_
  refine go_i (rn_V (ci := 1) (q0 := 1) X (c_X1_holds l D q ca nW nB hk E a1) ok_X1_holds wd_187 ⟨by decide, by decide⟩ hP hD rfl rfl rfl hl.1 rfl (Nat.le_of_ble_eq_true rfl) dX4_poke_5 ⟨Nat.zero_le _, Nat.zero_le _⟩) hP hD hS hA (fun H locs hP hD hS => ?_)
  refine lv_if_ne (tgt := 13) hx hb dX4_poke_8 (by decide) (fun c_1 => ?_) (fun c_1 => ?_)
  ·
    refine lv_aload_n hx hb dX4_poke_13 rfl (lv_at hl 0 rfl) ?_
    refine gf_X4_24 X hP dX4_poke_14 ?_
    refine lv_iload_n hx hb dX4_poke_17 rfl (lv_at hl 1 rfl) ?_
    refine lv_iconst (v := (1 : Int32)) hx hb dX4_poke_18 (by decide) ?_
    refine lv_iload_n hx hb dX4_poke_19 rfl (lv_at hl 2 rfl) ?_
    refine go_v (rn_V (ci := 1) (q0 := 1) X (c_X1_put l D q ca nW nB hk E a1 (1 : Int32) a2 (in_of_holds hk c_1)) ok_X1_put wd_191 ⟨by decide, by decide⟩ hP hD rfl rfl rfl hl.1 rfl (Nat.le_of_ble_eq_true rfl) dX4_poke_20 ⟨Nat.zero_le _, Nat.zero_le _⟩) hP hD hS hA (fun H locs hP hD hS => ?_)
    refine lv_iconst (v := (1 : Int32)) hx hb dX4_poke_23 (by decide) ?_
    exact rku_z (v := true) (F := (f_X4_poke nW nB E a1 a2)) (E1 := (f_X1_put nW nB E a1 (1 : Int32) a2)) (by unfold f_X4_poke; rw [if_neg c_1]; try rfl) X hP hD hS hAe hr hlk dX4_poke_24
  ·
    refine lv_iconst (v := (0 : Int32)) hx hb dX4_poke_11 (by decide) ?_
    exact rku_z (v := false) (F := (f_X4_poke nW nB E a1 a2)) (E1 := E) (by unfold f_X4_poke; rw [if_pos c_1]; try rfl) X hP hD hS hAe hr hlk dX4_poke_12
