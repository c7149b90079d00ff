/-! contracts: X5_isDue X5_csr X5_isThere X5_put X5_load X5_out X5_outSize X5_pc X5_peek X5_poke X5_reg X5_get X5_trap X5_become X5_goTo -/
set_option maxHeartbeats 4000000 in
set_option maxRecDepth 100000 in
theorem c_X5_isDue (l : Launch) (D : va_G) (q : Nat → Nat) (ca : Nat → ClassId) (sz mo : Int32) (hk : MOk sz mo) (E : MS) : Mt l yX5_isDue cX5_isDue 1 (some .boolean) 0 D (tysM ca) [.ref (q 0)] (cwM q ca sz mo E) (QcI D (cwM q ca sz mo E) (cwM q ca sz mo E) (b2i (f_X5_isDue sz mo E))) := by
  refine ent (own := RX5) rfl (by decide) (Nat.le_of_ble_eq_true rfl) ?_
  intro p e s m below meth c A ls X hr hlk hmn hAe hA hP hD hS hl
  have hx := X.1.1
  have hb := X.1.2.1
  have hl : lv_has ls 1 [(0, .ref (q 0))] := hl
  refine lv_aload_n hx hb dX5_isDue_0 rfl (lv_at hl 0 rfl) ?_
  refine gf_X5_58 X hP dX5_isDue_1 ?_
  refine lv_ldc2 (v := (-9223372036854775808 : Int64)) hx hb X.1.2.2.2.1 (X.1.2.2.2.2 _ wd_581) dX5_isDue_4 ?_
  refine lv_lxor hx hb dX5_isDue_7 ?_
  refine lv_aload_n hx hb dX5_isDue_8 rfl (lv_at hl 0 rfl) ?_
  refine gf_X5_64 X hP dX5_isDue_9 ?_
  refine lv_ldc2 (v := (-9223372036854775808 : Int64)) hx hb X.1.2.2.2.1 (X.1.2.2.2.2 _ wd_581) dX5_isDue_12 ?_
  refine lv_lxor hx hb dX5_isDue_15 ?_
  refine W.lcmp hx hb dX5_isDue_16 ?_
  refine lv_if_lt (tgt := 24) hx hb dX5_isDue_17 (by decide) (fun c_1 => ?_) (fun c_1 => ?_)
  ·
    refine lv_iconst (v := (0 : Int32)) hx hb dX5_isDue_24 (by decide) ?_
    exact rg_z (v := false) (F := (f_X5_isDue sz mo E)) (by unfold f_X5_isDue; rw [if_pos c_1]; try rfl) X hP hD hS hAe hr hlk dX5_isDue_25
  ·
    refine lv_iconst (v := (1 : Int32)) hx hb dX5_isDue_20 (by decide) ?_
    refine lv_goto (tgt := 25) hx hb dX5_isDue_21 (by decide) ?_
    exact rg_z (v := true) (F := (f_X5_isDue sz mo E)) (by unfold f_X5_isDue; rw [if_neg c_1]; try rfl) X hP hD hS hAe hr hlk dX5_isDue_25
set_option maxHeartbeats 4000000 in
set_option maxRecDepth 100000 in
theorem c_X5_csr (l : Launch) (D : va_G) (q : Nat → Nat) (ca : Nat → ClassId) (sz mo : Int32) (hk : MOk sz mo) (E : MS) (a1 : Int32) : Mt l yX5_csr cX5_csr 2 (some .int) 1 D (tysM ca) [.ref (q 0), .int a1] (cwM q ca sz mo E) (QcI D (cwM q ca sz mo E) (cwM q ca sz mo E) (f_X5_csr sz mo E a1)) := by
  refine ent (own := RX5) rfl (by decide) (Nat.le_of_ble_eq_true rfl) ?_
  intro p e s m below meth c A ls X hr hlk hmn hAe hA hP hD hS hl
  have hx := X.1.1
  have hb := X.1.2.1
  have hl : lv_has ls 2 [(0, .ref (q 0)), (1, .int a1)] := hl
  refine lv_iload_n hx hb dX5_csr_0 rfl (lv_at hl 1 rfl) ?_
  by_cases c_1 : a1 = (768 : Int32)
  ·
    refine lv_lookup (off := 83) (tgt := 84) hx hb dX5_csr_1 (by decide) (by rw [c_1]; decide) (by decide) ?_
    refine lv_sipush (v := (6144 : Int32)) hx hb dX5_csr_84 (by decide) ?_
    refine lv_aload_n hx hb dX5_csr_87 rfl (lv_at hl 0 rfl) ?_
    refine gf_X5_33 X hP dX5_csr_88 ?_
    refine lv_if_eq (tgt := 99) hx hb dX5_csr_91 (by decide) (fun c_2 => ?_) (fun c_2 => ?_)
    ·
      refine lv_iconst (v := (0 : Int32)) hx hb dX5_csr_99 (by decide) ?_
      refine lv_ior hx hb dX5_csr_100 ?_
      refine lv_aload_n hx hb dX5_csr_101 rfl (lv_at hl 0 rfl) ?_
      refine gf_X5_37 X hP dX5_csr_102 ?_
      refine lv_if_eq (tgt := 114) hx hb dX5_csr_105 (by decide) (fun c_3 => ?_) (fun c_3 => ?_)
      ·
        refine lv_iconst (v := (0 : Int32)) hx hb dX5_csr_114 (by decide) ?_
        refine lv_ior hx hb dX5_csr_115 ?_
        exact rg_i (v := (((6144 : Int32) ||| (0 : Int32)) ||| (0 : Int32))) (F := (f_X5_csr sz mo E a1)) (by unfold f_X5_csr; rw [if_pos c_1, if_pos c_2, if_pos c_3]; try rfl) X hP hD hS hAe hr hlk dX5_csr_116
      ·
        refine lv_sipush (v := (128 : Int32)) hx hb dX5_csr_108 (by decide) ?_
        refine lv_goto (tgt := 115) hx hb dX5_csr_111 (by decide) ?_
        refine lv_ior hx hb dX5_csr_115 ?_
        exact rg_i (v := (((6144 : Int32) ||| (0 : Int32)) ||| (128 : Int32))) (F := (f_X5_csr sz mo E a1)) (by unfold f_X5_csr; rw [if_pos c_1, if_pos c_2, if_neg c_3]; try rfl) X hP hD hS hAe hr hlk dX5_csr_116
    ·
      refine lv_bipush (v := (8 : Int32)) hx hb dX5_csr_94 (by decide) ?_
      refine lv_goto (tgt := 100) hx hb dX5_csr_96 (by decide) ?_
      refine lv_ior hx hb dX5_csr_100 ?_
      refine lv_aload_n hx hb dX5_csr_101 rfl (lv_at hl 0 rfl) ?_
      refine gf_X5_37 X hP dX5_csr_102 ?_
      refine lv_if_eq (tgt := 114) hx hb dX5_csr_105 (by decide) (fun c_4 => ?_) (fun c_4 => ?_)
      ·
        refine lv_iconst (v := (0 : Int32)) hx hb dX5_csr_114 (by decide) ?_
        refine lv_ior hx hb dX5_csr_115 ?_
        exact rg_i (v := (((6144 : Int32) ||| (8 : Int32)) ||| (0 : Int32))) (F := (f_X5_csr sz mo E a1)) (by unfold f_X5_csr; rw [if_pos c_1, if_neg c_2, if_pos c_4]; try rfl) X hP hD hS hAe hr hlk dX5_csr_116
      ·
        refine lv_sipush (v := (128 : Int32)) hx hb dX5_csr_108 (by decide) ?_
        refine lv_goto (tgt := 115) hx hb dX5_csr_111 (by decide) ?_
        refine lv_ior hx hb dX5_csr_115 ?_
        exact rg_i (v := (((6144 : Int32) ||| (8 : Int32)) ||| (128 : Int32))) (F := (f_X5_csr sz mo E a1)) (by unfold f_X5_csr; rw [if_pos c_1, if_neg c_2, if_neg c_4]; try rfl) X hP hD hS hAe hr hlk dX5_csr_116
  by_cases c_5 : a1 = (769 : Int32)
  ·
    refine lv_lookup (off := 116) (tgt := 117) hx hb dX5_csr_1 (by decide) (by rw [c_5]; decide) (by decide) ?_
    refine lv_ldc (v := (1073746176 : Int32)) hx hb X.1.2.2.2.1 (X.1.2.2.2.2 _ wd_576) dX5_csr_117 ?_
    exact rg_i (v := (1073746176 : Int32)) (F := (f_X5_csr sz mo E a1)) (by unfold f_X5_csr; rw [if_neg c_1, if_pos c_5]; try rfl) X hP hD hS hAe hr hlk dX5_csr_119
  by_cases c_6 : a1 = (772 : Int32)
  ·
    refine lv_lookup (off := 119) (tgt := 120) hx hb dX5_csr_1 (by decide) (by rw [c_6]; decide) (by decide) ?_
    refine lv_aload_n hx hb dX5_csr_120 rfl (lv_at hl 0 rfl) ?_
    refine gf_X5_40 X hP dX5_csr_121 ?_
    exact rg_i (v := (mmieBits E)) (F := (f_X5_csr sz mo E a1)) (by unfold f_X5_csr; rw [if_neg c_1, if_neg c_5, if_pos c_6]; try rfl) X hP hD hS hAe hr hlk dX5_csr_124
  by_cases c_7 : a1 = (773 : Int32)
  ·
    refine lv_lookup (off := 124) (tgt := 125) hx hb dX5_csr_1 (by decide) (by rw [c_7]; decide) (by decide) ?_
    refine lv_aload_n hx hb dX5_csr_125 rfl (lv_at hl 0 rfl) ?_
    refine gf_X5_43 X hP dX5_csr_126 ?_
    exact rg_i (v := (mmtvec E)) (F := (f_X5_csr sz mo E a1)) (by unfold f_X5_csr; rw [if_neg c_1, if_neg c_5, if_neg c_6, if_pos c_7]; try rfl) X hP hD hS hAe hr hlk dX5_csr_129
  by_cases c_8 : a1 = (832 : Int32)
  ·
    refine lv_lookup (off := 129) (tgt := 130) hx hb dX5_csr_1 (by decide) (by rw [c_8]; decide) (by decide) ?_
    refine lv_aload_n hx hb dX5_csr_130 rfl (lv_at hl 0 rfl) ?_
    refine gf_X5_46 X hP dX5_csr_131 ?_
    exact rg_i (v := (mmscratch E)) (F := (f_X5_csr sz mo E a1)) (by unfold f_X5_csr; rw [if_neg c_1, if_neg c_5, if_neg c_6, if_neg c_7, if_pos c_8]; try rfl) X hP hD hS hAe hr hlk dX5_csr_134
  by_cases c_9 : a1 = (833 : Int32)
  ·
    refine lv_lookup (off := 134) (tgt := 135) hx hb dX5_csr_1 (by decide) (by rw [c_9]; decide) (by decide) ?_
    refine lv_aload_n hx hb dX5_csr_135 rfl (lv_at hl 0 rfl) ?_
    refine gf_X5_49 X hP dX5_csr_136 ?_
    exact rg_i (v := (mmepc E)) (F := (f_X5_csr sz mo E a1)) (by unfold f_X5_csr; rw [if_neg c_1, if_neg c_5, if_neg c_6, if_neg c_7, if_neg c_8, if_pos c_9]; try rfl) X hP hD hS hAe hr hlk dX5_csr_139
  by_cases c_10 : a1 = (834 : Int32)
  ·
    refine lv_lookup (off := 139) (tgt := 140) hx hb dX5_csr_1 (by decide) (by rw [c_10]; decide) (by decide) ?_
    refine lv_aload_n hx hb dX5_csr_140 rfl (lv_at hl 0 rfl) ?_
    refine gf_X5_52 X hP dX5_csr_141 ?_
    exact rg_i (v := (mmcause E)) (F := (f_X5_csr sz mo E a1)) (by unfold f_X5_csr; rw [if_neg c_1, if_neg c_5, if_neg c_6, if_neg c_7, if_neg c_8, if_neg c_9, if_pos c_10]; try rfl) X hP hD hS hAe hr hlk dX5_csr_144
  by_cases c_11 : a1 = (835 : Int32)
  ·
    refine lv_lookup (off := 144) (tgt := 145) hx hb dX5_csr_1 (by decide) (by rw [c_11]; decide) (by decide) ?_
    refine lv_aload_n hx hb dX5_csr_145 rfl (lv_at hl 0 rfl) ?_
    refine gf_X5_55 X hP dX5_csr_146 ?_
    exact rg_i (v := (mmtval E)) (F := (f_X5_csr sz mo E a1)) (by unfold f_X5_csr; rw [if_neg c_1, if_neg c_5, if_neg c_6, if_neg c_7, if_neg c_8, if_neg c_9, if_neg c_10, if_pos c_11]; try rfl) X hP hD hS hAe hr hlk dX5_csr_149
  by_cases c_12 : a1 = (836 : Int32)
  ·
    refine lv_lookup (off := 149) (tgt := 150) hx hb dX5_csr_1 (by decide) (by rw [c_12]; decide) (by decide) ?_
    refine lv_aload_n hx hb dX5_csr_150 rfl (lv_at hl 0 rfl) ?_
    refine go_i (rn_V (ci := 5) (q0 := 0) X (c_X5_isDue l D q ca sz mo hk E ) ok_X5_isDue wd_577 ⟨by decide, by decide⟩ hP hD rfl rfl rfl hl.1 rfl (Nat.le_of_ble_eq_true rfl) dX5_csr_151 ⟨Nat.zero_le _, Nat.zero_le _⟩) hP hD hS hA (fun H locs hP hD hS => ?_)
    refine lv_if_eq (tgt := 163) hx hb dX5_csr_154 (by decide) (fun c_13 => ?_) (fun c_13 => ?_)
    ·
      refine lv_iconst (v := (0 : Int32)) hx hb dX5_csr_163 (by decide) ?_
      exact rg_i (v := (0 : Int32)) (F := (f_X5_csr sz mo E a1)) (by unfold f_X5_csr; rw [if_neg c_1, if_neg c_5, if_neg c_6, if_neg c_7, if_neg c_8, if_neg c_9, if_neg c_10, if_neg c_11, if_pos c_12, if_pos c_13]; try rfl) X hP hD hS hAe hr hlk dX5_csr_164
    ·
      refine lv_sipush (v := (128 : Int32)) hx hb dX5_csr_157 (by decide) ?_
      refine lv_goto (tgt := 164) hx hb dX5_csr_160 (by decide) ?_
      exact rg_i (v := (128 : Int32)) (F := (f_X5_csr sz mo E a1)) (by unfold f_X5_csr; rw [if_neg c_1, if_neg c_5, if_neg c_6, if_neg c_7, if_neg c_8, if_neg c_9, if_neg c_10, if_neg c_11, if_pos c_12, if_neg c_13]; try rfl) X hP hD hS hAe hr hlk dX5_csr_164
  refine lv_lookup (off := 164) (tgt := 165) hx hb dX5_csr_1 (by decide) ((lv_osw c_1 (by decide)).trans ((lv_osw c_5 (by decide)).trans ((lv_osw c_6 (by decide)).trans ((lv_osw c_7 (by decide)).trans ((lv_osw c_8 (by decide)).trans ((lv_osw c_9 (by decide)).trans ((lv_osw c_10 (by decide)).trans ((lv_osw c_11 (by decide)).trans ((lv_osw c_12 (by decide)).trans rfl))))))))) (by decide) ?_
  refine lv_iconst (v := (0 : Int32)) hx hb dX5_csr_165 (by decide) ?_
  exact rg_i (v := (0 : Int32)) (F := (f_X5_csr sz mo E a1)) (by unfold f_X5_csr; rw [if_neg c_1, if_neg c_5, if_neg c_6, if_neg c_7, if_neg c_8, if_neg c_9, if_neg c_10, if_neg c_11, if_neg c_12]; try rfl) X hP hD hS hAe hr hlk dX5_csr_166
set_option maxHeartbeats 4000000 in
set_option maxRecDepth 100000 in
theorem c_X5_isThere (l : Launch) (D : va_G) (q : Nat → Nat) (ca : Nat → ClassId) (sz mo : Int32) (hk : MOk sz mo) (E : MS) (a1 : Int32) (a2 : Int32) : Mt l yX5_isThere cX5_isThere 3 (some .boolean) 0 D (tysM ca) [.ref (q 0), .int a1, .int a2] (cwM q ca sz mo E) (QcI D (cwM q ca sz mo E) (cwM q ca sz mo E) (b2i (f_X5_isThere sz mo E a1 a2))) := by
  refine ent (own := RX5) rfl (by decide) (Nat.le_of_ble_eq_true rfl) ?_
  intro p e s m below meth c A ls X hr hlk hmn hAe hA hP hD hS hl
  have hx := X.1.1
  have hb := X.1.2.1
  have hl : lv_has ls 3 [(0, .ref (q 0)), (1, .int a1), (2, .int a2)] := hl
  refine lv_iload_n hx hb dX5_isThere_0 rfl (lv_at hl 1 rfl) ?_
  refine lv_if_lt (tgt := 18) hx hb dX5_isThere_1 (by decide) (fun c_1 => ?_) (fun c_1 => ?_)
  ·
    refine lv_iconst (v := (0 : Int32)) hx hb dX5_isThere_18 (by decide) ?_
    exact rg_z (v := false) (F := (f_X5_isThere sz mo E a1 a2)) (by unfold f_X5_isThere; rw [if_pos c_1]; try rfl) X hP hD hS hAe hr hlk dX5_isThere_19
  ·
    refine lv_iload_n hx hb dX5_isThere_4 rfl (lv_at hl 1 rfl) ?_
    refine lv_aload_n hx hb dX5_isThere_5 rfl (lv_at hl 0 rfl) ?_
    refine gf_X5_20 X hP dX5_isThere_6 ?_
    refine lv_iload_n hx hb dX5_isThere_9 rfl (lv_at hl 2 rfl) ?_
    refine lv_isub hx hb dX5_isThere_10 ?_
    refine lv_icmp_gt (tgt := 18) hx hb dX5_isThere_11 (by decide) (fun c_2 => ?_) (fun c_2 => ?_)
    ·
      refine lv_iconst (v := (0 : Int32)) hx hb dX5_isThere_18 (by decide) ?_
      exact rg_z (v := false) (F := (f_X5_isThere sz mo E a1 a2)) (by unfold f_X5_isThere; rw [if_neg c_1, if_pos c_2]; try rfl) X hP hD hS hAe hr hlk dX5_isThere_19
    ·
      refine lv_iconst (v := (1 : Int32)) hx hb dX5_isThere_14 (by decide) ?_
      refine lv_goto (tgt := 19) hx hb dX5_isThere_15 (by decide) ?_
      exact rg_z (v := true) (F := (f_X5_isThere sz mo E a1 a2)) (by unfold f_X5_isThere; rw [if_neg c_1, if_neg c_2]; try rfl) X hP hD hS hAe hr hlk dX5_isThere_19
set_option maxHeartbeats 4000000 in
set_option maxRecDepth 100000 in
theorem c_X5_put_1 (l : Launch) (D : va_G) (q : Nat → Nat) (ca : Nat → ClassId) (sz mo : Int32) (hk : MOk sz mo) (E : MS) (a1 : Int32) (a3 : Int32) (hi : ¬ (b2i (f_X5_isThere sz mo E a1 (1 : Int32))) = 0) : Mt l yX5_put cX5_put 5 none 0 D (tysM ca) [.ref (q 0), .int a1, .int (1 : Int32), .int a3] (cwM q ca sz mo E) (QcV D (cwM q ca sz mo E) (cwM q ca sz mo (f_X5_put_1 sz mo E a1 a3))) := by
  refine ent (own := RX5) rfl (by decide) (Nat.le_of_ble_eq_true rfl) ?_
  intro p e s m below meth c A ls X hr hlk hmn hAe hA hP hD hS hl
  have hx := X.1.1
  have hb := X.1.2.1
  have hl : lv_has ls 5 [(0, .ref (q 0)), (1, .int a1), (2, .int (1 : Int32)), (3, .int a3)] := hl
  refine lv_iconst (v := (0 : Int32)) hx hb dX5_put_0 (by decide) ?_
  refine lv_istore (lv' := [(4, .int (0 : Int32)), (0, .ref (q 0)), (1, .int a1), (2, .int (1 : Int32)), (3, .int a3)]) hx hb dX5_put_1 hl (by decide) rfl (fun ls hl => ?_)
  refine lv_iload hx hb dX5_put_3 (lv_at hl 0 rfl) ?_
  refine lv_iload_n hx hb dX5_put_5 rfl (lv_at hl 3 rfl) ?_
  refine lv_icmp_ge (tgt := 35) hx hb dX5_put_6 (by decide) (fun h => absurd h (by decide)) (fun _ => ?_)
  refine lv_aload_n hx hb dX5_put_9 rfl (lv_at hl 1 rfl) ?_
  refine gf_X5_8 X hP dX5_put_10 ?_
  refine lv_iload_n hx hb dX5_put_13 rfl (lv_at hl 2 rfl) ?_
  refine lv_iload hx hb dX5_put_14 (lv_at hl 0 rfl) ?_
  refine lv_iadd hx hb dX5_put_16 ?_
  refine lv_iload_n hx hb dX5_put_17 rfl (lv_at hl 4 rfl) ?_
  refine lv_bipush (v := (8 : Int32)) hx hb dX5_put_18 (by decide) ?_
  refine lv_iload hx hb dX5_put_20 (lv_at hl 0 rfl) ?_
  refine lv_imul hx hb dX5_put_22 ?_
  refine lv_ishr hx hb dX5_put_23 ?_
  refine lv_sipush (v := (255 : Int32)) hx hb dX5_put_24 (by decide) ?_
  refine lv_iand hx hb dX5_put_27 ?_
  refine mst_1 X hP hD hS (in_of_there hk hi (k := (0 : Int32)) (by decide) (by decide)) dX5_put_28 (fun H locs hP hD hS => ?_)
  refine lv_iinc (v := (1 : Int32)) (lv' := [(4, .int (1 : Int32)), (0, .ref (q 0)), (1, .int a1), (2, .int (1 : Int32)), (3, .int a3)]) hx hb dX5_put_29 hl (k := 0) rfl (by decide) (by decide) rfl (fun ls hl => ?_)
  refine lv_goto (tgt := 3) hx hb dX5_put_32 (by decide) ?_
  refine lv_iload hx hb dX5_put_3 (lv_at hl 0 rfl) ?_
  refine lv_iload_n hx hb dX5_put_5 rfl (lv_at hl 3 rfl) ?_
  refine lv_icmp_ge (tgt := 35) hx hb dX5_put_6 (by decide) (fun _ => ?_) (fun h => absurd (by decide) h)
  exact rmu_v (F := (f_X5_put_1 sz mo E a1 a3)) (E1 := (mmemory_ E (upd (mmemory E) ((a1 + (0 : Int32))).toNatClampNeg ((a3 >>> (((8 : Int32) * (0 : Int32)) &&& 31)) &&& (255 : Int32))))) rfl X hP hD hS hAe hr hlk dX5_put_35
set_option maxHeartbeats 4000000 in
set_option maxRecDepth 100000 in
theorem c_X5_put_2 (l : Launch) (D : va_G) (q : Nat → Nat) (ca : Nat → ClassId) (sz mo : Int32) (hk : MOk sz mo) (E : MS) (a1 : Int32) (a3 : Int32) (hi : ¬ (b2i (f_X5_isThere sz mo E a1 (2 : Int32))) = 0) : Mt l yX5_put cX5_put 5 none 0 D (tysM ca) [.ref (q 0), .int a1, .int (2 : Int32), .int a3] (cwM q ca sz mo E) (QcV D (cwM q ca sz mo E) (cwM q ca sz mo (f_X5_put_2 sz mo E a1 a3))) := by
  refine ent (own := RX5) rfl (by decide) (Nat.le_of_ble_eq_true rfl) ?_
  intro p e s m below meth c A ls X hr hlk hmn hAe hA hP hD hS hl
  have hx := X.1.1
  have hb := X.1.2.1
  have hl : lv_has ls 5 [(0, .ref (q 0)), (1, .int a1), (2, .int (2 : Int32)), (3, .int a3)] := hl
  refine lv_iconst (v := (0 : Int32)) hx hb dX5_put_0 (by decide) ?_
  refine lv_istore (lv' := [(4, .int (0 : Int32)), (0, .ref (q 0)), (1, .int a1), (2, .int (2 : Int32)), (3, .int a3)]) hx hb dX5_put_1 hl (by decide) rfl (fun ls hl => ?_)
  refine lv_iload hx hb dX5_put_3 (lv_at hl 0 rfl) ?_
  refine lv_iload_n hx hb dX5_put_5 rfl (lv_at hl 3 rfl) ?_
  refine lv_icmp_ge (tgt := 35) hx hb dX5_put_6 (by decide) (fun h => absurd h (by decide)) (fun _ => ?_)
  refine lv_aload_n hx hb dX5_put_9 rfl (lv_at hl 1 rfl) ?_
  refine gf_X5_8 X hP dX5_put_10 ?_
  refine lv_iload_n hx hb dX5_put_13 rfl (lv_at hl 2 rfl) ?_
  refine lv_iload hx hb dX5_put_14 (lv_at hl 0 rfl) ?_
  refine lv_iadd hx hb dX5_put_16 ?_
  refine lv_iload_n hx hb dX5_put_17 rfl (lv_at hl 4 rfl) ?_
  refine lv_bipush (v := (8 : Int32)) hx hb dX5_put_18 (by decide) ?_
  refine lv_iload hx hb dX5_put_20 (lv_at hl 0 rfl) ?_
  refine lv_imul hx hb dX5_put_22 ?_
  refine lv_ishr hx hb dX5_put_23 ?_
  refine lv_sipush (v := (255 : Int32)) hx hb dX5_put_24 (by decide) ?_
  refine lv_iand hx hb dX5_put_27 ?_
  refine mst_1 X hP hD hS (in_of_there hk hi (k := (0 : Int32)) (by decide) (by decide)) dX5_put_28 (fun H locs hP hD hS => ?_)
  refine lv_iinc (v := (1 : Int32)) (lv' := [(4, .int (1 : Int32)), (0, .ref (q 0)), (1, .int a1), (2, .int (2 : Int32)), (3, .int a3)]) hx hb dX5_put_29 hl (k := 0) rfl (by decide) (by decide) rfl (fun ls hl => ?_)
  refine lv_goto (tgt := 3) hx hb dX5_put_32 (by decide) ?_
  refine lv_iload hx hb dX5_put_3 (lv_at hl 0 rfl) ?_
  refine lv_iload_n hx hb dX5_put_5 rfl (lv_at hl 3 rfl) ?_
  refine lv_icmp_ge (tgt := 35) hx hb dX5_put_6 (by decide) (fun h => absurd h (by decide)) (fun _ => ?_)
  refine lv_aload_n hx hb dX5_put_9 rfl (lv_at hl 1 rfl) ?_
  refine gf_X5_8 X hP dX5_put_10 ?_
  refine lv_iload_n hx hb dX5_put_13 rfl (lv_at hl 2 rfl) ?_
  refine lv_iload hx hb dX5_put_14 (lv_at hl 0 rfl) ?_
  refine lv_iadd hx hb dX5_put_16 ?_
  refine lv_iload_n hx hb dX5_put_17 rfl (lv_at hl 4 rfl) ?_
  refine lv_bipush (v := (8 : Int32)) hx hb dX5_put_18 (by decide) ?_
  refine lv_iload hx hb dX5_put_20 (lv_at hl 0 rfl) ?_
  refine lv_imul hx hb dX5_put_22 ?_
  refine lv_ishr hx hb dX5_put_23 ?_
  refine lv_sipush (v := (255 : Int32)) hx hb dX5_put_24 (by decide) ?_
  refine lv_iand hx hb dX5_put_27 ?_
  refine mst_1 X hP hD hS (in_of_there hk hi (k := (1 : Int32)) (by decide) (by decide)) dX5_put_28 (fun H locs hP hD hS => ?_)
  refine lv_iinc (v := (2 : Int32)) (lv' := [(4, .int (2 : Int32)), (0, .ref (q 0)), (1, .int a1), (2, .int (2 : Int32)), (3, .int a3)]) hx hb dX5_put_29 hl (k := 0) rfl (by decide) (by decide) rfl (fun ls hl => ?_)
  refine lv_goto (tgt := 3) hx hb dX5_put_32 (by decide) ?_
  refine lv_iload hx hb dX5_put_3 (lv_at hl 0 rfl) ?_
  refine lv_iload_n hx hb dX5_put_5 rfl (lv_at hl 3 rfl) ?_
  refine lv_icmp_ge (tgt := 35) hx hb dX5_put_6 (by decide) (fun _ => ?_) (fun h => absurd (by decide) h)
  exact rmu_v (F := (f_X5_put_2 sz mo E a1 a3)) (E1 := (mmemory_ (mmemory_ E (upd (mmemory E) ((a1 + (0 : Int32))).toNatClampNeg ((a3 >>> (((8 : Int32) * (0 : Int32)) &&& 31)) &&& (255 : Int32)))) (upd (mmemory (mmemory_ E (upd (mmemory E) ((a1 + (0 : Int32))).toNatClampNeg ((a3 >>> (((8 : Int32) * (0 : Int32)) &&& 31)) &&& (255 : Int32))))) ((a1 + (1 : Int32))).toNatClampNeg ((a3 >>> (((8 : Int32) * (1 : Int32)) &&& 31)) &&& (255 : Int32))))) rfl X hP hD hS hAe hr hlk dX5_put_35
set_option maxHeartbeats 4000000 in
set_option maxRecDepth 100000 in
theorem c_X5_put_4 (l : Launch) (D : va_G) (q : Nat → Nat) (ca : Nat → ClassId) (sz mo : Int32) (hk : MOk sz mo) (E : MS) (a1 : Int32) (a3 : Int32) (hi : ¬ (b2i (f_X5_isThere sz mo E a1 (4 : Int32))) = 0) : Mt l yX5_put cX5_put 5 none 0 D (tysM ca) [.ref (q 0), .int a1, .int (4 : Int32), .int a3] (cwM q ca sz mo E) (QcV D (cwM q ca sz mo E) (cwM q ca sz mo (f_X5_put_4 sz mo E a1 a3))) := by
  refine ent (own := RX5) rfl (by decide) (Nat.le_of_ble_eq_true rfl) ?_
  intro p e s m below meth c A ls X hr hlk hmn hAe hA hP hD hS hl
  have hx := X.1.1
  have hb := X.1.2.1
  have hl : lv_has ls 5 [(0, .ref (q 0)), (1, .int a1), (2, .int (4 : Int32)), (3, .int a3)] := hl
  refine lv_iconst (v := (0 : Int32)) hx hb dX5_put_0 (by decide) ?_
  refine lv_istore (lv' := [(4, .int (0 : Int32)), (0, .ref (q 0)), (1, .int a1), (2, .int (4 : Int32)), (3, .int a3)]) hx hb dX5_put_1 hl (by decide) rfl (fun ls hl => ?_)
  refine lv_iload hx hb dX5_put_3 (lv_at hl 0 rfl) ?_
  refine lv_iload_n hx hb dX5_put_5 rfl (lv_at hl 3 rfl) ?_
  refine lv_icmp_ge (tgt := 35) hx hb dX5_put_6 (by decide) (fun h => absurd h (by decide)) (fun _ => ?_)
  refine lv_aload_n hx hb dX5_put_9 rfl (lv_at hl 1 rfl) ?_
  refine gf_X5_8 X hP dX5_put_10 ?_
  refine lv_iload_n hx hb dX5_put_13 rfl (lv_at hl 2 rfl) ?_
  refine lv_iload hx hb dX5_put_14 (lv_at hl 0 rfl) ?_
  refine lv_iadd hx hb dX5_put_16 ?_
  refine lv_iload_n hx hb dX5_put_17 rfl (lv_at hl 4 rfl) ?_
  refine lv_bipush (v := (8 : Int32)) hx hb dX5_put_18 (by decide) ?_
  refine lv_iload hx hb dX5_put_20 (lv_at hl 0 rfl) ?_
  refine lv_imul hx hb dX5_put_22 ?_
  refine lv_ishr hx hb dX5_put_23 ?_
  refine lv_sipush (v := (255 : Int32)) hx hb dX5_put_24 (by decide) ?_
  refine lv_iand hx hb dX5_put_27 ?_
  refine mst_1 X hP hD hS (in_of_there hk hi (k := (0 : Int32)) (by decide) (by decide)) dX5_put_28 (fun H locs hP hD hS => ?_)
  refine lv_iinc (v := (1 : Int32)) (lv' := [(4, .int (1 : Int32)), (0, .ref (q 0)), (1, .int a1), (2, .int (4 : Int32)), (3, .int a3)]) hx hb dX5_put_29 hl (k := 0) rfl (by decide) (by decide) rfl (fun ls hl => ?_)
  refine lv_goto (tgt := 3) hx hb dX5_put_32 (by decide) ?_
  refine lv_iload hx hb dX5_put_3 (lv_at hl 0 rfl) ?_
  refine lv_iload_n hx hb dX5_put_5 rfl (lv_at hl 3 rfl) ?_
  refine lv_icmp_ge (tgt := 35) hx hb dX5_put_6 (by decide) (fun h => absurd h (by decide)) (fun _ => ?_)
  refine lv_aload_n hx hb dX5_put_9 rfl (lv_at hl 1 rfl) ?_
  refine gf_X5_8 X hP dX5_put_10 ?_
  refine lv_iload_n hx hb dX5_put_13 rfl (lv_at hl 2 rfl) ?_
  refine lv_iload hx hb dX5_put_14 (lv_at hl 0 rfl) ?_
  refine lv_iadd hx hb dX5_put_16 ?_
  refine lv_iload_n hx hb dX5_put_17 rfl (lv_at hl 4 rfl) ?_
  refine lv_bipush (v := (8 : Int32)) hx hb dX5_put_18 (by decide) ?_
  refine lv_iload hx hb dX5_put_20 (lv_at hl 0 rfl) ?_
  refine lv_imul hx hb dX5_put_22 ?_
  refine lv_ishr hx hb dX5_put_23 ?_
  refine lv_sipush (v := (255 : Int32)) hx hb dX5_put_24 (by decide) ?_
  refine lv_iand hx hb dX5_put_27 ?_
  refine mst_1 X hP hD hS (in_of_there hk hi (k := (1 : Int32)) (by decide) (by decide)) dX5_put_28 (fun H locs hP hD hS => ?_)
  refine lv_iinc (v := (2 : Int32)) (lv' := [(4, .int (2 : Int32)), (0, .ref (q 0)), (1, .int a1), (2, .int (4 : Int32)), (3, .int a3)]) hx hb dX5_put_29 hl (k := 0) rfl (by decide) (by decide) rfl (fun ls hl => ?_)
  refine lv_goto (tgt := 3) hx hb dX5_put_32 (by decide) ?_
  refine lv_iload hx hb dX5_put_3 (lv_at hl 0 rfl) ?_
  refine lv_iload_n hx hb dX5_put_5 rfl (lv_at hl 3 rfl) ?_
  refine lv_icmp_ge (tgt := 35) hx hb dX5_put_6 (by decide) (fun h => absurd h (by decide)) (fun _ => ?_)
  refine lv_aload_n hx hb dX5_put_9 rfl (lv_at hl 1 rfl) ?_
  refine gf_X5_8 X hP dX5_put_10 ?_
  refine lv_iload_n hx hb dX5_put_13 rfl (lv_at hl 2 rfl) ?_
  refine lv_iload hx hb dX5_put_14 (lv_at hl 0 rfl) ?_
  refine lv_iadd hx hb dX5_put_16 ?_
  refine lv_iload_n hx hb dX5_put_17 rfl (lv_at hl 4 rfl) ?_
  refine lv_bipush (v := (8 : Int32)) hx hb dX5_put_18 (by decide) ?_
  refine lv_iload hx hb dX5_put_20 (lv_at hl 0 rfl) ?_
  refine lv_imul hx hb dX5_put_22 ?_
  refine lv_ishr hx hb dX5_put_23 ?_
  refine lv_sipush (v := (255 : Int32)) hx hb dX5_put_24 (by decide) ?_
  refine lv_iand hx hb dX5_put_27 ?_
  refine mst_1 X hP hD hS (in_of_there hk hi (k := (2 : Int32)) (by decide) (by decide)) dX5_put_28 (fun H locs hP hD hS => ?_)
  refine lv_iinc (v := (3 : Int32)) (lv' := [(4, .int (3 : Int32)), (0, .ref (q 0)), (1, .int a1), (2, .int (4 : Int32)), (3, .int a3)]) hx hb dX5_put_29 hl (k := 0) rfl (by decide) (by decide) rfl (fun ls hl => ?_)
  refine lv_goto (tgt := 3) hx hb dX5_put_32 (by decide) ?_
  refine lv_iload hx hb dX5_put_3 (lv_at hl 0 rfl) ?_
  refine lv_iload_n hx hb dX5_put_5 rfl (lv_at hl 3 rfl) ?_
  refine lv_icmp_ge (tgt := 35) hx hb dX5_put_6 (by decide) (fun h => absurd h (by decide)) (fun _ => ?_)
  refine lv_aload_n hx hb dX5_put_9 rfl (lv_at hl 1 rfl) ?_
  refine gf_X5_8 X hP dX5_put_10 ?_
  refine lv_iload_n hx hb dX5_put_13 rfl (lv_at hl 2 rfl) ?_
  refine lv_iload hx hb dX5_put_14 (lv_at hl 0 rfl) ?_
  refine lv_iadd hx hb dX5_put_16 ?_
  refine lv_iload_n hx hb dX5_put_17 rfl (lv_at hl 4 rfl) ?_
  refine lv_bipush (v := (8 : Int32)) hx hb dX5_put_18 (by decide) ?_
  refine lv_iload hx hb dX5_put_20 (lv_at hl 0 rfl) ?_
  refine lv_imul hx hb dX5_put_22 ?_
  refine lv_ishr hx hb dX5_put_23 ?_
  refine lv_sipush (v := (255 : Int32)) hx hb dX5_put_24 (by decide) ?_
  refine lv_iand hx hb dX5_put_27 ?_
  refine mst_1 X hP hD hS (in_of_there hk hi (k := (3 : Int32)) (by decide) (by decide)) dX5_put_28 (fun H locs hP hD hS => ?_)
  refine lv_iinc (v := (4 : Int32)) (lv' := [(4, .int (4 : Int32)), (0, .ref (q 0)), (1, .int a1), (2, .int (4 : Int32)), (3, .int a3)]) hx hb dX5_put_29 hl (k := 0) rfl (by decide) (by decide) rfl (fun ls hl => ?_)
  refine lv_goto (tgt := 3) hx hb dX5_put_32 (by decide) ?_
  refine lv_iload hx hb dX5_put_3 (lv_at hl 0 rfl) ?_
  refine lv_iload_n hx hb dX5_put_5 rfl (lv_at hl 3 rfl) ?_
  refine lv_icmp_ge (tgt := 35) hx hb dX5_put_6 (by decide) (fun _ => ?_) (fun h => absurd (by decide) h)
  exact rmu_v (F := (f_X5_put_4 sz mo E a1 a3)) (E1 := (mmemory_ (mmemory_ (mmemory_ (mmemory_ E (upd (mmemory E) ((a1 + (0 : Int32))).toNatClampNeg ((a3 >>> (((8 : Int32) * (0 : Int32)) &&& 31)) &&& (255 : Int32)))) (upd (mmemory (mmemory_ E (upd (mmemory E) ((a1 + (0 : Int32))).toNatClampNeg ((a3 >>> (((8 : Int32) * (0 : Int32)) &&& 31)) &&& (255 : Int32))))) ((a1 + (1 : Int32))).toNatClampNeg ((a3 >>> (((8 : Int32) * (1 : Int32)) &&& 31)) &&& (255 : Int32)))) (upd (mmemory (mmemory_ (mmemory_ E (upd (mmemory E) ((a1 + (0 : Int32))).toNatClampNeg ((a3 >>> (((8 : Int32) * (0 : Int32)) &&& 31)) &&& (255 : Int32)))) (upd (mmemory (mmemory_ E (upd (mmemory E) ((a1 + (0 : Int32))).toNatClampNeg ((a3 >>> (((8 : Int32) * (0 : Int32)) &&& 31)) &&& (255 : Int32))))) ((a1 + (1 : Int32))).toNatClampNeg ((a3 >>> (((8 : Int32) * (1 : Int32)) &&& 31)) &&& (255 : Int32))))) ((a1 + (2 : Int32))).toNatClampNeg ((a3 >>> (((8 : Int32) * (2 : Int32)) &&& 31)) &&& (255 : Int32)))) (upd (mmemory (mmemory_ (mmemory_ (mmemory_ E (upd (mmemory E) ((a1 + (0 : Int32))).toNatClampNeg ((a3 >>> (((8 : Int32) * (0 : Int32)) &&& 31)) &&& (255 : Int32)))) (upd (mmemory (mmemory_ E (upd (mmemory E) ((a1 + (0 : Int32))).toNatClampNeg ((a3 >>> (((8 : Int32) * (0 : Int32)) &&& 31)) &&& (255 : Int32))))) ((a1 + (1 : Int32))).toNatClampNeg ((a3 >>> (((8 : Int32) * (1 : Int32)) &&& 31)) &&& (255 : Int32)))) (upd (mmemory (mmemory_ (mmemory_ E (upd (mmemory E) ((a1 + (0 : Int32))).toNatClampNeg ((a3 >>> (((8 : Int32) * (0 : Int32)) &&& 31)) &&& (255 : Int32)))) (upd (mmemory (mmemory_ E (upd (mmemory E) ((a1 + (0 : Int32))).toNatClampNeg ((a3 >>> (((8 : Int32) * (0 : Int32)) &&& 31)) &&& (255 : Int32))))) ((a1 + (1 : Int32))).toNatClampNeg ((a3 >>> (((8 : Int32) * (1 : Int32)) &&& 31)) &&& (255 : Int32))))) ((a1 + (2 : Int32))).toNatClampNeg ((a3 >>> (((8 : Int32) * (2 : Int32)) &&& 31)) &&& (255 : Int32))))) ((a1 + (3 : Int32))).toNatClampNeg ((a3 >>> (((8 : Int32) * (3 : Int32)) &&& 31)) &&& (255 : Int32))))) rfl X hP hD hS hAe hr hlk dX5_put_35
theorem c_X5_put (l : Launch) (D : va_G) (q : Nat → Nat) (ca : Nat → ClassId) (sz mo : Int32) (hk : MOk sz mo) (E : MS) (a1 a2 a3 : Int32) (hi : ¬ (b2i (f_X5_isThere sz mo E a1 a2)) = 0) (hb : a2 = (1 : Int32) ∨ a2 = (2 : Int32) ∨ a2 = (4 : Int32)) : Mt l yX5_put cX5_put 5 none 0 D (tysM ca) [.ref (q 0), .int a1, .int a2, .int a3] (cwM q ca sz mo E) (QcV D (cwM q ca sz mo E) (cwM q ca sz mo (f_X5_put sz mo E a1 a2 a3))) := by
  rcases hb with rfl | rfl | rfl
  · exact c_X5_put_1 l D q ca sz mo hk E a1 a3 hi
  · exact c_X5_put_2 l D q ca sz mo hk E a1 a3 hi
  · exact c_X5_put_4 l D q ca sz mo hk E a1 a3 hi
set_option maxHeartbeats 4000000 in
set_option maxRecDepth 100000 in
theorem c_X5_load (l : Launch) (D : va_G) (q : Nat → Nat) (ca : Nat → ClassId) (sz mo : Int32) (hk : MOk sz mo) (E : MS) (a1 : Int32) (a2 : Int32) : Mt l yX5_load cX5_load 3 (some .boolean) 1 D (tysM ca) [.ref (q 0), .int a1, .int a2] (cwM q ca sz mo E) (QcI D (cwM q ca sz mo E) (cwM q ca sz mo (f_X5_load sz mo E a1 a2).2) (b2i (f_X5_load sz mo E a1 a2).1)) := by
  refine ent (own := RX5) rfl (by decide) (Nat.le_of_ble_eq_true rfl) ?_
  intro p e s m below meth c A ls X hr hlk hmn hAe hA hP hD hS hl
  have hx := X.1.1
  have hb := X.1.2.1
  have hl : lv_has ls 3 [(0, .ref (q 0)), (1, .int a1), (2, .int a2)] := hl
  refine lv_aload_n hx hb dX5_load_0 rfl (lv_at hl 0 rfl) ?_
  refine lv_iload_n hx hb dX5_load_1 rfl (lv_at hl 1 rfl) ?_
  refine lv_iconst (v := (4 : Int32)) hx hb dX5_load_2 (by decide) ?_
  refine go_i (rn_V (ci := 5) (q0 := 0) X (c_X5_isThere l D q ca sz mo hk E a1 (4 : Int32)) ok_X5_isThere wd_556 ⟨by decide, by decide⟩ hP hD rfl rfl rfl hl.1 rfl (Nat.le_of_ble_eq_true rfl) dX5_load_3 ⟨Nat.zero_le _, Nat.zero_le _⟩) hP hD hS hA (fun H locs hP hD hS => ?_)
  refine lv_if_ne (tgt := 11) hx hb dX5_load_6 (by decide) (fun c_1 => ?_) (fun c_1 => ?_)
  ·
    refine lv_aload_n hx hb dX5_load_11 rfl (lv_at hl 0 rfl) ?_
    refine lv_iload_n hx hb dX5_load_12 rfl (lv_at hl 1 rfl) ?_
    refine lv_iconst (v := (4 : Int32)) hx hb dX5_load_13 (by decide) ?_
    refine lv_iload_n hx hb dX5_load_14 rfl (lv_at hl 2 rfl) ?_
    refine go_v (rn_V (ci := 5) (q0 := 0) X (c_X5_put l D q ca sz mo hk E a1 (4 : Int32) a2 c_1 (Or.inr (Or.inr rfl))) ok_X5_put wd_564 ⟨by decide, by decide⟩ hP hD rfl rfl rfl hl.1 rfl (Nat.le_of_ble_eq_true rfl) dX5_load_15 ⟨Nat.zero_le _, Nat.zero_le _⟩) hP hD hS hA (fun H locs hP hD hS => ?_)
    refine lv_iconst (v := (1 : Int32)) hx hb dX5_load_18 (by decide) ?_
    exact rmu_z (v := true) (F := (f_X5_load sz mo E a1 a2)) (E1 := (f_X5_put sz mo E a1 (4 : Int32) a2)) (by unfold f_X5_load; rw [if_neg c_1]; try rfl) X hP hD hS hAe hr hlk dX5_load_19
  ·
    refine lv_iconst (v := (0 : Int32)) hx hb dX5_load_9 (by decide) ?_
    exact rmu_z (v := false) (F := (f_X5_load sz mo E a1 a2)) (E1 := E) (by unfold f_X5_load; rw [if_pos c_1]; try rfl) X hP hD hS hAe hr hlk dX5_load_10
set_option maxHeartbeats 4000000 in
set_option maxRecDepth 100000 in
theorem c_X5_out (l : Launch) (D : va_G) (q : Nat → Nat) (ca : Nat → ClassId) (sz mo : Int32) (hk : MOk sz mo) (E : MS) (a1 : Int32) (hs : mSnt mo E) : Mt l yX5_out cX5_out 2 (some .int) 0 D (tysM ca) [.ref (q 0), .int a1] (cwM q ca sz mo E) (QcI D (cwM q ca sz mo E) (cwM q ca sz mo E) (f_X5_out sz mo E a1)) := by
  refine ent (own := RX5) rfl (by decide) (Nat.le_of_ble_eq_true rfl) ?_
  intro p e s m below meth c A ls X hr hlk hmn hAe hA hP hD hS hl
  have hx := X.1.1
  have hb := X.1.2.1
  have hl : lv_has ls 2 [(0, .ref (q 0)), (1, .int a1)] := hl
  refine lv_iload_n hx hb dX5_out_0 rfl (lv_at hl 1 rfl) ?_
  refine lv_if_lt (tgt := 21) hx hb dX5_out_1 (by decide) (fun c_1 => ?_) (fun c_1 => ?_)
  ·
    refine lv_iconst (v := (-1 : Int32)) hx hb dX5_out_21 (by decide) ?_
    exact rg_i (v := (-1 : Int32)) (F := (f_X5_out sz mo E a1)) (by unfold f_X5_out; rw [if_pos c_1]; try rfl) X hP hD hS hAe hr hlk dX5_out_22
  ·
    refine lv_iload_n hx hb dX5_out_4 rfl (lv_at hl 1 rfl) ?_
    refine lv_aload_n hx hb dX5_out_5 rfl (lv_at hl 0 rfl) ?_
    refine gf_X5_67 X hP dX5_out_6 ?_
    refine lv_icmp_ge (tgt := 21) hx hb dX5_out_9 (by decide) (fun c_2 => ?_) (fun c_2 => ?_)
    ·
      refine lv_iconst (v := (-1 : Int32)) hx hb dX5_out_21 (by decide) ?_
      exact rg_i (v := (-1 : Int32)) (F := (f_X5_out sz mo E a1)) (by unfold f_X5_out; rw [if_neg c_1, if_pos c_2]; try rfl) X hP hD hS hAe hr hlk dX5_out_22
    ·
      refine lv_aload_n hx hb dX5_out_12 rfl (lv_at hl 0 rfl) ?_
      refine gf_X5_17 X hP dX5_out_13 ?_
      refine lv_iload_n hx hb dX5_out_16 rfl (lv_at hl 1 rfl) ?_
      refine mld_3 X hP (in_of_out hk hs c_1 c_2) dX5_out_17 ?_
      refine lv_goto (tgt := 22) hx hb dX5_out_18 (by decide) ?_
      exact rg_i (v := (msent E (a1).toNatClampNeg)) (F := (f_X5_out sz mo E a1)) (by unfold f_X5_out; rw [if_neg c_1, if_neg c_2]; try rfl) X hP hD hS hAe hr hlk dX5_out_22
set_option maxHeartbeats 4000000 in
set_option maxRecDepth 100000 in
theorem c_X5_outSize (l : Launch) (D : va_G) (q : Nat → Nat) (ca : Nat → ClassId) (sz mo : Int32) (hk : MOk sz mo) (E : MS) : Mt l yX5_outSize cX5_outSize 1 (some .int) 0 D (tysM ca) [.ref (q 0)] (cwM q ca sz mo E) (QcI D (cwM q ca sz mo E) (cwM q ca sz mo E) (f_X5_outSize sz mo E)) := by
  refine ent (own := RX5) rfl (by decide) (Nat.le_of_ble_eq_true rfl) ?_
  intro p e s m below meth c A ls X hr hlk hmn hAe hA hP hD hS hl
  have hx := X.1.1
  have hb := X.1.2.1
  have hl : lv_has ls 1 [(0, .ref (q 0))] := hl
  refine lv_aload_n hx hb dX5_outSize_0 rfl (lv_at hl 0 rfl) ?_
  refine gf_X5_67 X hP dX5_outSize_1 ?_
  exact rg_i (v := (msentMany E)) (F := (f_X5_outSize sz mo E)) rfl X hP hD hS hAe hr hlk dX5_outSize_4
set_option maxHeartbeats 4000000 in
set_option maxRecDepth 100000 in
theorem c_X5_pc (l : Launch) (D : va_G) (q : Nat → Nat) (ca : Nat → ClassId) (sz mo : Int32) (hk : MOk sz mo) (E : MS) : Mt l yX5_pc cX5_pc 1 (some .int) 0 D (tysM ca) [.ref (q 0)] (cwM q ca sz mo E) (QcI D (cwM q ca sz mo E) (cwM q ca sz mo E) (f_X5_pc sz mo E)) := by
  refine ent (own := RX5) rfl (by decide) (Nat.le_of_ble_eq_true rfl) ?_
  intro p e s m below meth c A ls X hr hlk hmn hAe hA hP hD hS hl
  have hx := X.1.1
  have hb := X.1.2.1
  have hl : lv_has ls 1 [(0, .ref (q 0))] := hl
  refine lv_aload_n hx hb dX5_pc_0 rfl (lv_at hl 0 rfl) ?_
  refine gf_X5_30 X hP dX5_pc_1 ?_
  exact rg_i (v := (mpc E)) (F := (f_X5_pc sz mo E)) rfl X hP hD hS hAe hr hlk dX5_pc_4
set_option maxHeartbeats 4000000 in
set_option maxRecDepth 100000 in
theorem c_X5_peek (l : Launch) (D : va_G) (q : Nat → Nat) (ca : Nat → ClassId) (sz mo : Int32) (hk : MOk sz mo) (E : MS) (a1 : Int32) : Mt l yX5_peek cX5_peek 2 (some .int) 1 D (tysM ca) [.ref (q 0), .int a1] (cwM q ca sz mo E) (QcI D (cwM q ca sz mo E) (cwM q ca sz mo E) (f_X5_peek sz mo E a1)) := by
  refine ent (own := RX5) rfl (by decide) (Nat.le_of_ble_eq_true rfl) ?_
  intro p e s m below meth c A ls X hr hlk hmn hAe hA hP hD hS hl
  have hx := X.1.1
  have hb := X.1.2.1
  have hl : lv_has ls 2 [(0, .ref (q 0)), (1, .int a1)] := hl
  refine lv_aload_n hx hb dX5_peek_0 rfl (lv_at hl 0 rfl) ?_
  refine lv_iload_n hx hb dX5_peek_1 rfl (lv_at hl 1 rfl) ?_
  refine lv_iconst (v := (1 : Int32)) hx hb dX5_peek_2 (by decide) ?_
  refine go_i (rn_V (ci := 5) (q0 := 0) X (c_X5_isThere l D q ca sz mo hk E a1 (1 : Int32)) ok_X5_isThere wd_556 ⟨by decide, by decide⟩ hP hD rfl rfl rfl hl.1 rfl (Nat.le_of_ble_eq_true rfl) dX5_peek_3 ⟨Nat.zero_le _, Nat.zero_le _⟩) hP hD hS hA (fun H locs hP hD hS => ?_)
  refine lv_if_eq (tgt := 18) hx hb dX5_peek_6 (by decide) (fun c_1 => ?_) (fun c_1 => ?_)
  ·
    refine lv_iconst (v := (-1 : Int32)) hx hb dX5_peek_18 (by decide) ?_
    exact rg_i (v := (-1 : Int32)) (F := (f_X5_peek sz mo E a1)) (by unfold f_X5_peek; rw [if_pos c_1]; try rfl) X hP hD hS hAe hr hlk dX5_peek_19
  ·
    refine lv_aload_n hx hb dX5_peek_9 rfl (lv_at hl 0 rfl) ?_
    refine gf_X5_8 X hP dX5_peek_10 ?_
    refine lv_iload_n hx hb dX5_peek_13 rfl (lv_at hl 1 rfl) ?_
    refine mld_1 X hP (in_of_there0 hk c_1) dX5_peek_14 ?_
    refine lv_goto (tgt := 19) hx hb dX5_peek_15 (by decide) ?_
    exact rg_i (v := (mmemory E (a1).toNatClampNeg)) (F := (f_X5_peek sz mo E a1)) (by unfold f_X5_peek; rw [if_neg c_1]; try rfl) X hP hD hS hAe hr hlk dX5_peek_19
set_option maxHeartbeats 4000000 in
set_option maxRecDepth 100000 in
theorem c_X5_poke (l : Launch) (D : va_G) (q : Nat → Nat) (ca : Nat → ClassId) (sz mo : Int32) (hk : MOk sz mo) (E : MS) (a1 : Int32) (a2 : Int32) : Mt l yX5_poke cX5_poke 3 (some .boolean) 1 D (tysM ca) [.ref (q 0), .int a1, .int a2] (cwM q ca sz mo E) (QcI D (cwM q ca sz mo E) (cwM q ca sz mo (f_X5_poke sz mo E a1 a2).2) (b2i (f_X5_poke sz mo E a1 a2).1)) := by
  refine ent (own := RX5) rfl (by decide) (Nat.le_of_ble_eq_true rfl) ?_
  intro p e s m below meth c A ls X hr hlk hmn hAe hA hP hD hS hl
  have hx := X.1.1
  have hb := X.1.2.1
  have hl : lv_has ls 3 [(0, .ref (q 0)), (1, .int a1), (2, .int a2)] := hl
  refine lv_aload_n hx hb dX5_poke_0 rfl (lv_at hl 0 rfl) ?_
  refine lv_iload_n hx hb dX5_poke_1 rfl (lv_at hl 1 rfl) ?_
  refine lv_iconst (v := (1 : Int32)) hx hb dX5_poke_2 (by decide) ?_
  refine go_i (rn_V (ci := 5) (q0 := 0) X (c_X5_isThere l D q ca sz mo hk E a1 (1 : Int32)) ok_X5_isThere wd_556 ⟨by decide, by decide⟩ hP hD rfl rfl rfl hl.1 rfl (Nat.le_of_ble_eq_true rfl) dX5_poke_3 ⟨Nat.zero_le _, Nat.zero_le _⟩) hP hD hS hA (fun H locs hP hD hS => ?_)
  refine lv_if_ne (tgt := 11) hx hb dX5_poke_6 (by decide) (fun c_1 => ?_) (fun c_1 => ?_)
  ·
    refine lv_aload_n hx hb dX5_poke_11 rfl (lv_at hl 0 rfl) ?_
    refine gf_X5_8 X hP dX5_poke_12 ?_
    refine lv_iload_n hx hb dX5_poke_15 rfl (lv_at hl 1 rfl) ?_
    refine lv_iload_n hx hb dX5_poke_16 rfl (lv_at hl 2 rfl) ?_
    refine lv_sipush (v := (255 : Int32)) hx hb dX5_poke_17 (by decide) ?_
    refine lv_iand hx hb dX5_poke_20 ?_
    refine mst_1 X hP hD hS (in_of_there0 hk c_1) dX5_poke_21 (fun H locs hP hD hS => ?_)
    refine lv_iconst (v := (1 : Int32)) hx hb dX5_poke_22 (by decide) ?_
    exact rmu_z (v := true) (F := (f_X5_poke sz mo E a1 a2)) (E1 := (mmemory_ E (upd (mmemory E) (a1).toNatClampNeg (a2 &&& (255 : Int32))))) (by unfold f_X5_poke; rw [if_neg c_1]; try rfl) X hP hD hS hAe hr hlk dX5_poke_23
  ·
    refine lv_iconst (v := (0 : Int32)) hx hb dX5_poke_9 (by decide) ?_
    exact rmu_z (v := false) (F := (f_X5_poke sz mo E a1 a2)) (E1 := E) (by unfold f_X5_poke; rw [if_pos c_1]; try rfl) X hP hD hS hAe hr hlk dX5_poke_10
set_option maxHeartbeats 4000000 in
set_option maxRecDepth 100000 in
theorem c_X5_reg (l : Launch) (D : va_G) (q : Nat → Nat) (ca : Nat → ClassId) (sz mo : Int32) (hk : MOk sz mo) (E : MS) (a1 : Int32) : Mt l yX5_reg cX5_reg 2 (some .int) 0 D (tysM ca) [.ref (q 0), .int a1] (cwM q ca sz mo E) (QcI D (cwM q ca sz mo E) (cwM q ca sz mo E) (f_X5_reg sz mo E a1)) := by
  refine ent (own := RX5) rfl (by decide) (Nat.le_of_ble_eq_true rfl) ?_
  intro p e s m below meth c A ls X hr hlk hmn hAe hA hP hD hS hl
  have hx := X.1.1
  have hb := X.1.2.1
  have hl : lv_has ls 2 [(0, .ref (q 0)), (1, .int a1)] := hl
  refine lv_aload_n hx hb dX5_reg_0 rfl (lv_at hl 0 rfl) ?_
  refine gf_X5_14 X hP dX5_reg_1 ?_
  refine lv_iload_n hx hb dX5_reg_4 rfl (lv_at hl 1 rfl) ?_
  refine lv_bipush (v := (31 : Int32)) hx hb dX5_reg_5 (by decide) ?_
  refine lv_iand hx hb dX5_reg_7 ?_
  refine mld_2 X hP (pk_andIn _ 5 rfl (by decide)) dX5_reg_8 ?_
  exact rg_i (v := (mx E ((a1 &&& (31 : Int32))).toNatClampNeg)) (F := (f_X5_reg sz mo E a1)) rfl X hP hD hS hAe hr hlk dX5_reg_9
set_option maxHeartbeats 4000000 in
set_option maxRecDepth 100000 in
theorem c_X5_get_1 (l : Launch) (D : va_G) (q : Nat → Nat) (ca : Nat → ClassId) (sz mo : Int32) (hk : MOk sz mo) (E : MS) (a1 : Int32) (hi : ¬ (b2i (f_X5_isThere sz mo E a1 (1 : Int32))) = 0) : Mt l yX5_get cX5_get 5 (some .int) 0 D (tysM ca) [.ref (q 0), .int a1, .int (1 : Int32)] (cwM q ca sz mo E) (QcI D (cwM q ca sz mo E) (cwM q ca sz mo E) (f_X5_get_1 sz mo E a1)) := by
  refine ent (own := RX5) rfl (by decide) (Nat.le_of_ble_eq_true rfl) ?_
  intro p e s m below meth c A ls X hr hlk hmn hAe hA hP hD hS hl
  have hx := X.1.1
  have hb := X.1.2.1
  have hl : lv_has ls 5 [(0, .ref (q 0)), (1, .int a1), (2, .int (1 : Int32))] := hl
  refine lv_iconst (v := (0 : Int32)) hx hb dX5_get_0 (by decide) ?_
  refine lv_istore_n (lv' := [(3, .int (0 : Int32)), (0, .ref (q 0)), (1, .int a1), (2, .int (1 : Int32))]) hx hb dX5_get_1 rfl hl (by decide) rfl (fun ls hl => ?_)
  refine lv_iload_n hx hb dX5_get_2 rfl (lv_at hl 3 rfl) ?_
  refine lv_iconst (v := (1 : Int32)) hx hb dX5_get_3 (by decide) ?_
  refine lv_isub hx hb dX5_get_4 ?_
  refine tw_eqi (y := (0 : Int32)) (by decide) ?_
  refine lv_istore (lv' := [(4, .int (0 : Int32)), (3, .int (0 : Int32)), (0, .ref (q 0)), (1, .int a1), (2, .int (1 : Int32))]) hx hb dX5_get_5 hl (by decide) rfl (fun ls hl => ?_)
  refine lv_iload hx hb dX5_get_7 (lv_at hl 0 rfl) ?_
  refine lv_if_lt (tgt := 33) hx hb dX5_get_9 (by decide) (fun h => absurd h (by decide)) (fun _ => ?_)
  refine lv_iload_n hx hb dX5_get_12 rfl (lv_at hl 1 rfl) ?_
  refine lv_bipush (v := (8 : Int32)) hx hb dX5_get_13 (by decide) ?_
  refine lv_ishl hx hb dX5_get_15 ?_
  refine lv_aload_n hx hb dX5_get_16 rfl (lv_at hl 2 rfl) ?_
  refine gf_X5_8 X hP dX5_get_17 ?_
  refine lv_iload_n hx hb dX5_get_20 rfl (lv_at hl 3 rfl) ?_
  refine lv_iload hx hb dX5_get_21 (lv_at hl 0 rfl) ?_
  refine lv_iadd hx hb dX5_get_23 ?_
  refine mld_1 X hP (in_of_there hk hi (k := (0 : Int32)) (by decide) (by decide)) dX5_get_24 ?_
  refine lv_ior hx hb dX5_get_25 ?_
  refine lv_istore_n (lv' := [(3, .int (((0 : Int32) <<< ((8 : Int32) &&& 31)) ||| (mmemory E ((a1 + (0 : Int32))).toNatClampNeg))), (4, .int (0 : Int32)), (0, .ref (q 0)), (1, .int a1), (2, .int (1 : Int32))]) hx hb dX5_get_26 rfl hl (by decide) rfl (fun ls hl => ?_)
  refine lv_iinc (v := (-1 : Int32)) (lv' := [(4, .int (-1 : Int32)), (3, .int (((0 : Int32) <<< ((8 : Int32) &&& 31)) ||| (mmemory E ((a1 + (0 : Int32))).toNatClampNeg))), (0, .ref (q 0)), (1, .int a1), (2, .int (1 : Int32))]) hx hb dX5_get_27 hl (k := 1) rfl (by decide) (by decide) rfl (fun ls hl => ?_)
  refine lv_goto (tgt := 7) hx hb dX5_get_30 (by decide) ?_
  refine lv_iload hx hb dX5_get_7 (lv_at hl 0 rfl) ?_
  refine lv_if_lt (tgt := 33) hx hb dX5_get_9 (by decide) (fun _ => ?_) (fun h => absurd (by decide) h)
  refine lv_iload_n hx hb dX5_get_33 rfl (lv_at hl 1 rfl) ?_
  exact rg_i (v := (((0 : Int32) <<< ((8 : Int32) &&& 31)) ||| (mmemory E ((a1 + (0 : Int32))).toNatClampNeg))) (F := (f_X5_get_1 sz mo E a1)) rfl X hP hD hS hAe hr hlk dX5_get_34
set_option maxHeartbeats 4000000 in
set_option maxRecDepth 100000 in
theorem c_X5_get_2 (l : Launch) (D : va_G) (q : Nat → Nat) (ca : Nat → ClassId) (sz mo : Int32) (hk : MOk sz mo) (E : MS) (a1 : Int32) (hi : ¬ (b2i (f_X5_isThere sz mo E a1 (2 : Int32))) = 0) : Mt l yX5_get cX5_get 5 (some .int) 0 D (tysM ca) [.ref (q 0), .int a1, .int (2 : Int32)] (cwM q ca sz mo E) (QcI D (cwM q ca sz mo E) (cwM q ca sz mo E) (f_X5_get_2 sz mo E a1)) := by
  refine ent (own := RX5) rfl (by decide) (Nat.le_of_ble_eq_true rfl) ?_
  intro p e s m below meth c A ls X hr hlk hmn hAe hA hP hD hS hl
  have hx := X.1.1
  have hb := X.1.2.1
  have hl : lv_has ls 5 [(0, .ref (q 0)), (1, .int a1), (2, .int (2 : Int32))] := hl
  refine lv_iconst (v := (0 : Int32)) hx hb dX5_get_0 (by decide) ?_
  refine lv_istore_n (lv' := [(3, .int (0 : Int32)), (0, .ref (q 0)), (1, .int a1), (2, .int (2 : Int32))]) hx hb dX5_get_1 rfl hl (by decide) rfl (fun ls hl => ?_)
  refine lv_iload_n hx hb dX5_get_2 rfl (lv_at hl 3 rfl) ?_
  refine lv_iconst (v := (1 : Int32)) hx hb dX5_get_3 (by decide) ?_
  refine lv_isub hx hb dX5_get_4 ?_
  refine tw_eqi (y := (1 : Int32)) (by decide) ?_
  refine lv_istore (lv' := [(4, .int (1 : Int32)), (3, .int (0 : Int32)), (0, .ref (q 0)), (1, .int a1), (2, .int (2 : Int32))]) hx hb dX5_get_5 hl (by decide) rfl (fun ls hl => ?_)
  refine lv_iload hx hb dX5_get_7 (lv_at hl 0 rfl) ?_
  refine lv_if_lt (tgt := 33) hx hb dX5_get_9 (by decide) (fun h => absurd h (by decide)) (fun _ => ?_)
  refine lv_iload_n hx hb dX5_get_12 rfl (lv_at hl 1 rfl) ?_
  refine lv_bipush (v := (8 : Int32)) hx hb dX5_get_13 (by decide) ?_
  refine lv_ishl hx hb dX5_get_15 ?_
  refine lv_aload_n hx hb dX5_get_16 rfl (lv_at hl 2 rfl) ?_
  refine gf_X5_8 X hP dX5_get_17 ?_
  refine lv_iload_n hx hb dX5_get_20 rfl (lv_at hl 3 rfl) ?_
  refine lv_iload hx hb dX5_get_21 (lv_at hl 0 rfl) ?_
  refine lv_iadd hx hb dX5_get_23 ?_
  refine mld_1 X hP (in_of_there hk hi (k := (1 : Int32)) (by decide) (by decide)) dX5_get_24 ?_
  refine lv_ior hx hb dX5_get_25 ?_
  refine lv_istore_n (lv' := [(3, .int (((0 : Int32) <<< ((8 : Int32) &&& 31)) ||| (mmemory E ((a1 + (1 : Int32))).toNatClampNeg))), (4, .int (1 : Int32)), (0, .ref (q 0)), (1, .int a1), (2, .int (2 : Int32))]) hx hb dX5_get_26 rfl hl (by decide) rfl (fun ls hl => ?_)
  refine lv_iinc (v := (0 : Int32)) (lv' := [(4, .int (0 : Int32)), (3, .int (((0 : Int32) <<< ((8 : Int32) &&& 31)) ||| (mmemory E ((a1 + (1 : Int32))).toNatClampNeg))), (0, .ref (q 0)), (1, .int a1), (2, .int (2 : Int32))]) hx hb dX5_get_27 hl (k := 1) rfl (by decide) (by decide) rfl (fun ls hl => ?_)
  refine lv_goto (tgt := 7) hx hb dX5_get_30 (by decide) ?_
  refine lv_iload hx hb dX5_get_7 (lv_at hl 0 rfl) ?_
  refine lv_if_lt (tgt := 33) hx hb dX5_get_9 (by decide) (fun h => absurd h (by decide)) (fun _ => ?_)
  refine lv_iload_n hx hb dX5_get_12 rfl (lv_at hl 1 rfl) ?_
  refine lv_bipush (v := (8 : Int32)) hx hb dX5_get_13 (by decide) ?_
  refine lv_ishl hx hb dX5_get_15 ?_
  refine lv_aload_n hx hb dX5_get_16 rfl (lv_at hl 2 rfl) ?_
  refine gf_X5_8 X hP dX5_get_17 ?_
  refine lv_iload_n hx hb dX5_get_20 rfl (lv_at hl 3 rfl) ?_
  refine lv_iload hx hb dX5_get_21 (lv_at hl 0 rfl) ?_
  refine lv_iadd hx hb dX5_get_23 ?_
  refine mld_1 X hP (in_of_there hk hi (k := (0 : Int32)) (by decide) (by decide)) dX5_get_24 ?_
  refine lv_ior hx hb dX5_get_25 ?_
  refine lv_istore_n (lv' := [(3, .int (((((0 : Int32) <<< ((8 : Int32) &&& 31)) ||| (mmemory E ((a1 + (1 : Int32))).toNatClampNeg)) <<< ((8 : Int32) &&& 31)) ||| (mmemory E ((a1 + (0 : Int32))).toNatClampNeg))), (4, .int (0 : Int32)), (0, .ref (q 0)), (1, .int a1), (2, .int (2 : Int32))]) hx hb dX5_get_26 rfl hl (by decide) rfl (fun ls hl => ?_)
  refine lv_iinc (v := (-1 : Int32)) (lv' := [(4, .int (-1 : Int32)), (3, .int (((((0 : Int32) <<< ((8 : Int32) &&& 31)) ||| (mmemory E ((a1 + (1 : Int32))).toNatClampNeg)) <<< ((8 : Int32) &&& 31)) ||| (mmemory E ((a1 + (0 : Int32))).toNatClampNeg))), (0, .ref (q 0)), (1, .int a1), (2, .int (2 : Int32))]) hx hb dX5_get_27 hl (k := 1) rfl (by decide) (by decide) rfl (fun ls hl => ?_)
  refine lv_goto (tgt := 7) hx hb dX5_get_30 (by decide) ?_
  refine lv_iload hx hb dX5_get_7 (lv_at hl 0 rfl) ?_
  refine lv_if_lt (tgt := 33) hx hb dX5_get_9 (by decide) (fun _ => ?_) (fun h => absurd (by decide) h)
  refine lv_iload_n hx hb dX5_get_33 rfl (lv_at hl 1 rfl) ?_
  exact rg_i (v := (((((0 : Int32) <<< ((8 : Int32) &&& 31)) ||| (mmemory E ((a1 + (1 : Int32))).toNatClampNeg)) <<< ((8 : Int32) &&& 31)) ||| (mmemory E ((a1 + (0 : Int32))).toNatClampNeg))) (F := (f_X5_get_2 sz mo E a1)) rfl X hP hD hS hAe hr hlk dX5_get_34
set_option maxHeartbeats 4000000 in
set_option maxRecDepth 100000 in
theorem c_X5_get_4 (l : Launch) (D : va_G) (q : Nat → Nat) (ca : Nat → ClassId) (sz mo : Int32) (hk : MOk sz mo) (E : MS) (a1 : Int32) (hi : ¬ (b2i (f_X5_isThere sz mo E a1 (4 : Int32))) = 0) : Mt l yX5_get cX5_get 5 (some .int) 0 D (tysM ca) [.ref (q 0), .int a1, .int (4 : Int32)] (cwM q ca sz mo E) (QcI D (cwM q ca sz mo E) (cwM q ca sz mo E) (f_X5_get_4 sz mo E a1)) := by
  refine ent (own := RX5) rfl (by decide) (Nat.le_of_ble_eq_true rfl) ?_
  intro p e s m below meth c A ls X hr hlk hmn hAe hA hP hD hS hl
  have hx := X.1.1
  have hb := X.1.2.1
  have hl : lv_has ls 5 [(0, .ref (q 0)), (1, .int a1), (2, .int (4 : Int32))] := hl
  refine lv_iconst (v := (0 : Int32)) hx hb dX5_get_0 (by decide) ?_
  refine lv_istore_n (lv' := [(3, .int (0 : Int32)), (0, .ref (q 0)), (1, .int a1), (2, .int (4 : Int32))]) hx hb dX5_get_1 rfl hl (by decide) rfl (fun ls hl => ?_)
  refine lv_iload_n hx hb dX5_get_2 rfl (lv_at hl 3 rfl) ?_
  refine lv_iconst (v := (1 : Int32)) hx hb dX5_get_3 (by decide) ?_
  refine lv_isub hx hb dX5_get_4 ?_
  refine tw_eqi (y := (3 : Int32)) (by decide) ?_
  refine lv_istore (lv' := [(4, .int (3 : Int32)), (3, .int (0 : Int32)), (0, .ref (q 0)), (1, .int a1), (2, .int (4 : Int32))]) hx hb dX5_get_5 hl (by decide) rfl (fun ls hl => ?_)
  refine lv_iload hx hb dX5_get_7 (lv_at hl 0 rfl) ?_
  refine lv_if_lt (tgt := 33) hx hb dX5_get_9 (by decide) (fun h => absurd h (by decide)) (fun _ => ?_)
  refine lv_iload_n hx hb dX5_get_12 rfl (lv_at hl 1 rfl) ?_
  refine lv_bipush (v := (8 : Int32)) hx hb dX5_get_13 (by decide) ?_
  refine lv_ishl hx hb dX5_get_15 ?_
  refine lv_aload_n hx hb dX5_get_16 rfl (lv_at hl 2 rfl) ?_
  refine gf_X5_8 X hP dX5_get_17 ?_
  refine lv_iload_n hx hb dX5_get_20 rfl (lv_at hl 3 rfl) ?_
  refine lv_iload hx hb dX5_get_21 (lv_at hl 0 rfl) ?_
  refine lv_iadd hx hb dX5_get_23 ?_
  refine mld_1 X hP (in_of_there hk hi (k := (3 : Int32)) (by decide) (by decide)) dX5_get_24 ?_
  refine lv_ior hx hb dX5_get_25 ?_
  refine lv_istore_n (lv' := [(3, .int (((0 : Int32) <<< ((8 : Int32) &&& 31)) ||| (mmemory E ((a1 + (3 : Int32))).toNatClampNeg))), (4, .int (3 : Int32)), (0, .ref (q 0)), (1, .int a1), (2, .int (4 : Int32))]) hx hb dX5_get_26 rfl hl (by decide) rfl (fun ls hl => ?_)
  refine lv_iinc (v := (2 : Int32)) (lv' := [(4, .int (2 : Int32)), (3, .int (((0 : Int32) <<< ((8 : Int32) &&& 31)) ||| (mmemory E ((a1 + (3 : Int32))).toNatClampNeg))), (0, .ref (q 0)), (1, .int a1), (2, .int (4 : Int32))]) hx hb dX5_get_27 hl (k := 1) rfl (by decide) (by decide) rfl (fun ls hl => ?_)
  refine lv_goto (tgt := 7) hx hb dX5_get_30 (by decide) ?_
  refine lv_iload hx hb dX5_get_7 (lv_at hl 0 rfl) ?_
  refine lv_if_lt (tgt := 33) hx hb dX5_get_9 (by decide) (fun h => absurd h (by decide)) (fun _ => ?_)
  refine lv_iload_n hx hb dX5_get_12 rfl (lv_at hl 1 rfl) ?_
  refine lv_bipush (v := (8 : Int32)) hx hb dX5_get_13 (by decide) ?_
  refine lv_ishl hx hb dX5_get_15 ?_
  refine lv_aload_n hx hb dX5_get_16 rfl (lv_at hl 2 rfl) ?_
  refine gf_X5_8 X hP dX5_get_17 ?_
  refine lv_iload_n hx hb dX5_get_20 rfl (lv_at hl 3 rfl) ?_
  refine lv_iload hx hb dX5_get_21 (lv_at hl 0 rfl) ?_
  refine lv_iadd hx hb dX5_get_23 ?_
  refine mld_1 X hP (in_of_there hk hi (k := (2 : Int32)) (by decide) (by decide)) dX5_get_24 ?_
  refine lv_ior hx hb dX5_get_25 ?_
  refine lv_istore_n (lv' := [(3, .int (((((0 : Int32) <<< ((8 : Int32) &&& 31)) ||| (mmemory E ((a1 + (3 : Int32))).toNatClampNeg)) <<< ((8 : Int32) &&& 31)) ||| (mmemory E ((a1 + (2 : Int32))).toNatClampNeg))), (4, .int (2 : Int32)), (0, .ref (q 0)), (1, .int a1), (2, .int (4 : Int32))]) hx hb dX5_get_26 rfl hl (by decide) rfl (fun ls hl => ?_)
  refine lv_iinc (v := (1 : Int32)) (lv' := [(4, .int (1 : Int32)), (3, .int (((((0 : Int32) <<< ((8 : Int32) &&& 31)) ||| (mmemory E ((a1 + (3 : Int32))).toNatClampNeg)) <<< ((8 : Int32) &&& 31)) ||| (mmemory E ((a1 + (2 : Int32))).toNatClampNeg))), (0, .ref (q 0)), (1, .int a1), (2, .int (4 : Int32))]) hx hb dX5_get_27 hl (k := 1) rfl (by decide) (by decide) rfl (fun ls hl => ?_)
  refine lv_goto (tgt := 7) hx hb dX5_get_30 (by decide) ?_
  refine lv_iload hx hb dX5_get_7 (lv_at hl 0 rfl) ?_
  refine lv_if_lt (tgt := 33) hx hb dX5_get_9 (by decide) (fun h => absurd h (by decide)) (fun _ => ?_)
  refine lv_iload_n hx hb dX5_get_12 rfl (lv_at hl 1 rfl) ?_
  refine lv_bipush (v := (8 : Int32)) hx hb dX5_get_13 (by decide) ?_
  refine lv_ishl hx hb dX5_get_15 ?_
  refine lv_aload_n hx hb dX5_get_16 rfl (lv_at hl 2 rfl) ?_
  refine gf_X5_8 X hP dX5_get_17 ?_
  refine lv_iload_n hx hb dX5_get_20 rfl (lv_at hl 3 rfl) ?_
  refine lv_iload hx hb dX5_get_21 (lv_at hl 0 rfl) ?_
  refine lv_iadd hx hb dX5_get_23 ?_
  refine mld_1 X hP (in_of_there hk hi (k := (1 : Int32)) (by decide) (by decide)) dX5_get_24 ?_
  refine lv_ior hx hb dX5_get_25 ?_
  refine lv_istore_n (lv' := [(3, .int (((((((0 : Int32) <<< ((8 : Int32) &&& 31)) ||| (mmemory E ((a1 + (3 : Int32))).toNatClampNeg)) <<< ((8 : Int32) &&& 31)) ||| (mmemory E ((a1 + (2 : Int32))).toNatClampNeg)) <<< ((8 : Int32) &&& 31)) ||| (mmemory E ((a1 + (1 : Int32))).toNatClampNeg))), (4, .int (1 : Int32)), (0, .ref (q 0)), (1, .int a1), (2, .int (4 : Int32))]) hx hb dX5_get_26 rfl hl (by decide) rfl (fun ls hl => ?_)
  refine lv_iinc (v := (0 : Int32)) (lv' := [(4, .int (0 : Int32)), (3, .int (((((((0 : Int32) <<< ((8 : Int32) &&& 31)) ||| (mmemory E ((a1 + (3 : Int32))).toNatClampNeg)) <<< ((8 : Int32) &&& 31)) ||| (mmemory E ((a1 + (2 : Int32))).toNatClampNeg)) <<< ((8 : Int32) &&& 31)) ||| (mmemory E ((a1 + (1 : Int32))).toNatClampNeg))), (0, .ref (q 0)), (1, .int a1), (2, .int (4 : Int32))]) hx hb dX5_get_27 hl (k := 1) rfl (by decide) (by decide) rfl (fun ls hl => ?_)
  refine lv_goto (tgt := 7) hx hb dX5_get_30 (by decide) ?_
  refine lv_iload hx hb dX5_get_7 (lv_at hl 0 rfl) ?_
  refine lv_if_lt (tgt := 33) hx hb dX5_get_9 (by decide) (fun h => absurd h (by decide)) (fun _ => ?_)
  refine lv_iload_n hx hb dX5_get_12 rfl (lv_at hl 1 rfl) ?_
  refine lv_bipush (v := (8 : Int32)) hx hb dX5_get_13 (by decide) ?_
  refine lv_ishl hx hb dX5_get_15 ?_
  refine lv_aload_n hx hb dX5_get_16 rfl (lv_at hl 2 rfl) ?_
  refine gf_X5_8 X hP dX5_get_17 ?_
  refine lv_iload_n hx hb dX5_get_20 rfl (lv_at hl 3 rfl) ?_
  refine lv_iload hx hb dX5_get_21 (lv_at hl 0 rfl) ?_
  refine lv_iadd hx hb dX5_get_23 ?_
  refine mld_1 X hP (in_of_there hk hi (k := (0 : Int32)) (by decide) (by decide)) dX5_get_24 ?_
  refine lv_ior hx hb dX5_get_25 ?_
  refine lv_istore_n (lv' := [(3, .int (((((((((0 : Int32) <<< ((8 : Int32) &&& 31)) ||| (mmemory E ((a1 + (3 : Int32))).toNatClampNeg)) <<< ((8 : Int32) &&& 31)) ||| (mmemory E ((a1 + (2 : Int32))).toNatClampNeg)) <<< ((8 : Int32) &&& 31)) ||| (mmemory E ((a1 + (1 : Int32))).toNatClampNeg)) <<< ((8 : Int32) &&& 31)) ||| (mmemory E ((a1 + (0 : Int32))).toNatClampNeg))), (4, .int (0 : Int32)), (0, .ref (q 0)), (1, .int a1), (2, .int (4 : Int32))]) hx hb dX5_get_26 rfl hl (by decide) rfl (fun ls hl => ?_)
  refine lv_iinc (v := (-1 : Int32)) (lv' := [(4, .int (-1 : Int32)), (3, .int (((((((((0 : Int32) <<< ((8 : Int32) &&& 31)) ||| (mmemory E ((a1 + (3 : Int32))).toNatClampNeg)) <<< ((8 : Int32) &&& 31)) ||| (mmemory E ((a1 + (2 : Int32))).toNatClampNeg)) <<< ((8 : Int32) &&& 31)) ||| (mmemory E ((a1 + (1 : Int32))).toNatClampNeg)) <<< ((8 : Int32) &&& 31)) ||| (mmemory E ((a1 + (0 : Int32))).toNatClampNeg))), (0, .ref (q 0)), (1, .int a1), (2, .int (4 : Int32))]) hx hb dX5_get_27 hl (k := 1) rfl (by decide) (by decide) rfl (fun ls hl => ?_)
  refine lv_goto (tgt := 7) hx hb dX5_get_30 (by decide) ?_
  refine lv_iload hx hb dX5_get_7 (lv_at hl 0 rfl) ?_
  refine lv_if_lt (tgt := 33) hx hb dX5_get_9 (by decide) (fun _ => ?_) (fun h => absurd (by decide) h)
  refine lv_iload_n hx hb dX5_get_33 rfl (lv_at hl 1 rfl) ?_
  exact rg_i (v := (((((((((0 : Int32) <<< ((8 : Int32) &&& 31)) ||| (mmemory E ((a1 + (3 : Int32))).toNatClampNeg)) <<< ((8 : Int32) &&& 31)) ||| (mmemory E ((a1 + (2 : Int32))).toNatClampNeg)) <<< ((8 : Int32) &&& 31)) ||| (mmemory E ((a1 + (1 : Int32))).toNatClampNeg)) <<< ((8 : Int32) &&& 31)) ||| (mmemory E ((a1 + (0 : Int32))).toNatClampNeg))) (F := (f_X5_get_4 sz mo E a1)) rfl X hP hD hS hAe hr hlk dX5_get_34
theorem c_X5_get (l : Launch) (D : va_G) (q : Nat → Nat) (ca : Nat → ClassId) (sz mo : Int32) (hk : MOk sz mo) (E : MS) (a1 a2 : Int32) (hi : ¬ (b2i (f_X5_isThere sz mo E a1 a2)) = 0) (hb : a2 = (1 : Int32) ∨ a2 = (2 : Int32) ∨ a2 = (4 : Int32)) : Mt l yX5_get cX5_get 5 (some .int) 0 D (tysM ca) [.ref (q 0), .int a1, .int a2] (cwM q ca sz mo E) (QcI D (cwM q ca sz mo E) (cwM q ca sz mo E) (f_X5_get sz mo E a1 a2)) := by
  rcases hb with rfl | rfl | rfl
  · exact c_X5_get_1 l D q ca sz mo hk E a1 hi
  · exact c_X5_get_2 l D q ca sz mo hk E a1 hi
  · exact c_X5_get_4 l D q ca sz mo hk E a1 hi
set_option maxHeartbeats 4000000 in
set_option maxRecDepth 100000 in
theorem c_X5_trap (l : Launch) (D : va_G) (q : Nat → Nat) (ca : Nat → ClassId) (sz mo : Int32) (hk : MOk sz mo) (E : MS) (a1 : Int32) (a2 : Int32) : Mt l yX5_trap cX5_trap 3 (some .int) 0 D (tysM ca) [.ref (q 0), .int a1, .int a2] (cwM q ca sz mo E) (QcI D (cwM q ca sz mo E) (cwM q ca sz mo (f_X5_trap sz mo E a1 a2).2) (f_X5_trap sz mo E a1 a2).1) := by
  refine ent (own := RX5) rfl (by decide) (Nat.le_of_ble_eq_true rfl) ?_
  intro p e s m below meth c A ls X hr hlk hmn hAe hA hP hD hS hl
  have hx := X.1.1
  have hb := X.1.2.1
  have hl : lv_has ls 3 [(0, .ref (q 0)), (1, .int a1), (2, .int a2)] := hl
  refine lv_aload_n hx hb dX5_trap_0 rfl (lv_at hl 0 rfl) ?_
  refine lv_aload_n hx hb dX5_trap_1 rfl (lv_at hl 0 rfl) ?_
  refine gf_X5_30 X hP dX5_trap_2 ?_
  refine pf_X5_49 X hP hD hS (mpc E) dX5_trap_5 (fun H locs hP hD hS => ?_)
  refine lv_aload_n hx hb dX5_trap_8 rfl (lv_at hl 0 rfl) ?_
  refine lv_iload_n hx hb dX5_trap_9 rfl (lv_at hl 1 rfl) ?_
  refine pf_X5_52 X hP hD hS a1 dX5_trap_10 (fun H locs hP hD hS => ?_)
  refine lv_aload_n hx hb dX5_trap_13 rfl (lv_at hl 0 rfl) ?_
  refine lv_iload_n hx hb dX5_trap_14 rfl (lv_at hl 2 rfl) ?_
  refine pf_X5_55 X hP hD hS a2 dX5_trap_15 (fun H locs hP hD hS => ?_)
  refine lv_aload_n hx hb dX5_trap_18 rfl (lv_at hl 0 rfl) ?_
  refine lv_aload_n hx hb dX5_trap_19 rfl (lv_at hl 0 rfl) ?_
  refine gf_X5_33 X hP dX5_trap_20 ?_
  refine tw_eqi (y := (b2i (mmie E))) (congrArg b2i (Eq.trans (gs_mmie_mtval _ _) (Eq.trans (gs_mmie_mcause _ _) (gs_mmie_mepc _ _)))) ?_
  refine pf_X5_37 X hP hD hS (mmie E) dX5_trap_23 (fun H locs hP hD hS => ?_)
  refine lv_aload_n hx hb dX5_trap_26 rfl (lv_at hl 0 rfl) ?_
  refine lv_iconst (v := (0 : Int32)) hx hb dX5_trap_27 (by decide) ?_
  refine pf_X5_33 X hP hD hS false dX5_trap_28 (fun H locs hP hD hS => ?_)
  refine lv_aload_n hx hb dX5_trap_31 rfl (lv_at hl 0 rfl) ?_
  refine lv_aload_n hx hb dX5_trap_32 rfl (lv_at hl 0 rfl) ?_
  refine gf_X5_43 X hP dX5_trap_33 ?_
  refine tw_eqi (y := (mmtvec E)) (Eq.trans (gs_mmtvec_mie _ _) (Eq.trans (gs_mmtvec_mpie _ _) (Eq.trans (gs_mmtvec_mtval _ _) (Eq.trans (gs_mmtvec_mcause _ _) (gs_mmtvec_mepc _ _))))) ?_
  refine lv_bipush (v := (-4 : Int32)) hx hb dX5_trap_36 (by decide) ?_
  refine lv_iand hx hb dX5_trap_38 ?_
  refine pf_X5_30 X hP hD hS ((mmtvec E) &&& (-4 : Int32)) dX5_trap_39 (fun H locs hP hD hS => ?_)
  refine lv_iconst (v := (1 : Int32)) hx hb dX5_trap_42 (by decide) ?_
  exact rmu_i (v := (1 : Int32)) (F := (f_X5_trap sz mo E a1 a2)) (E1 := (mpc_ (mmie_ (mmpie_ (mmtval_ (mmcause_ (mmepc_ E (mpc E)) a1) a2) (mmie E)) false) ((mmtvec E) &&& (-4 : Int32)))) rfl X hP hD hS hAe hr hlk dX5_trap_43
set_option maxHeartbeats 4000000 in
set_option maxRecDepth 100000 in
theorem c_X5_become (l : Launch) (D : va_G) (q : Nat → Nat) (ca : Nat → ClassId) (sz mo : Int32) (hk : MOk sz mo) (E : MS) (a1 : Int32) (hd : vp_in (md E) 32) : Mt l yX5_become cX5_become 2 (some .int) 0 D (tysM ca) [.ref (q 0), .int a1] (cwM q ca sz mo E) (QcI D (cwM q ca sz mo E) (cwM q ca sz mo (f_X5_become sz mo E a1).2) (f_X5_become sz mo E a1).1) := by
  refine ent (own := RX5) rfl (by decide) (Nat.le_of_ble_eq_true rfl) ?_
  intro p e s m below meth c A ls X hr hlk hmn hAe hA hP hD hS hl
  have hx := X.1.1
  have hb := X.1.2.1
  have hl : lv_has ls 2 [(0, .ref (q 0)), (1, .int a1)] := hl
  refine lv_aload_n hx hb dX5_become_0 rfl (lv_at hl 0 rfl) ?_
  refine gf_X5_14 X hP dX5_become_1 ?_
  refine lv_aload_n hx hb dX5_become_4 rfl (lv_at hl 0 rfl) ?_
  refine gf_X5_124 X hP dX5_become_5 ?_
  refine lv_aload_n hx hb dX5_become_8 rfl (lv_at hl 0 rfl) ?_
  refine gf_X5_124 X hP dX5_become_9 ?_
  refine lv_if_ne (tgt := 19) hx hb dX5_become_12 (by decide) (fun c_1 => ?_) (fun c_1 => ?_)
  ·
    refine lv_iload_n hx hb dX5_become_19 rfl (lv_at hl 1 rfl) ?_
    refine mst_2 X hP hD hS hd dX5_become_20 (fun H locs hP hD hS => ?_)
    refine lv_iconst (v := (-1 : Int32)) hx hb dX5_become_21 (by decide) ?_
    exact rmu_i (v := (-1 : Int32)) (F := (f_X5_become sz mo E a1)) (E1 := (mx_ E (upd (mx E) ((md E)).toNatClampNeg a1))) (by unfold f_X5_become; rw [if_neg c_1]; try rfl) X hP hD hS hAe hr hlk dX5_become_22
  ·
    refine lv_iconst (v := (0 : Int32)) hx hb dX5_become_15 (by decide) ?_
    refine lv_goto (tgt := 20) hx hb dX5_become_16 (by decide) ?_
    refine mst_2 X hP hD hS hd dX5_become_20 (fun H locs hP hD hS => ?_)
    refine lv_iconst (v := (-1 : Int32)) hx hb dX5_become_21 (by decide) ?_
    exact rmu_i (v := (-1 : Int32)) (F := (f_X5_become sz mo E a1)) (E1 := (mx_ E (upd (mx E) ((md E)).toNatClampNeg (0 : Int32)))) (by unfold f_X5_become; rw [if_pos c_1]; try rfl) X hP hD hS hAe hr hlk dX5_become_22
set_option maxHeartbeats 4000000 in
set_option maxRecDepth 100000 in
theorem c_X5_goTo (l : Launch) (D : va_G) (q : Nat → Nat) (ca : Nat → ClassId) (sz mo : Int32) (hk : MOk sz mo) (E : MS) (a1 : Int32) (a2 : Bool) (hd : vp_in (md E) 32) : Mt l yX5_goTo cX5_goTo 4 (some .int) 1 D (tysM ca) [.ref (q 0), .int a1, .int (b2i a2)] (cwM q ca sz mo E) (QcI D (cwM q ca sz mo E) (cwM q ca sz mo (f_X5_goTo sz mo E a1 a2).2) (f_X5_goTo sz mo E a1 a2).1) := by
  refine ent (own := RX5) rfl (by decide) (Nat.le_of_ble_eq_true rfl) ?_
  intro p e s m below meth c A ls X hr hlk hmn hAe hA hP hD hS hl
  have hx := X.1.1
  have hb := X.1.2.1
  have hl : lv_has ls 4 [(0, .ref (q 0)), (1, .int a1), (2, .int (b2i a2))] := hl
  refine lv_iload_n hx hb dX5_goTo_0 rfl (lv_at hl 1 rfl) ?_
  refine lv_iconst (v := (3 : Int32)) hx hb dX5_goTo_1 (by decide) ?_
  refine lv_iand hx hb dX5_goTo_2 ?_
  refine lv_if_eq (tgt := 13) hx hb dX5_goTo_3 (by decide) (fun c_1 => ?_) (fun c_1 => ?_)
  ·
    refine lv_iload_n hx hb dX5_goTo_13 rfl (lv_at hl 2 rfl) ?_
    refine lv_if_eq (tgt := 30) hx hb dX5_goTo_14 (by decide) (fun c_2 => ?_) (fun c_2 => ?_)
    ·
      refine lv_iconst (v := (-1 : Int32)) hx hb dX5_goTo_30 (by decide) ?_
      refine lv_istore_n (lv' := [(3, .int (-1 : Int32)), (0, .ref (q 0)), (1, .int a1), (2, .int (b2i a2))]) hx hb dX5_goTo_31 rfl hl (by decide) rfl (fun ls hl => ?_)
      refine lv_aload_n hx hb dX5_goTo_32 rfl (lv_at hl 1 rfl) ?_
      refine lv_iload_n hx hb dX5_goTo_33 rfl (lv_at hl 2 rfl) ?_
      refine pf_X5_139 X hP hD hS a1 dX5_goTo_34 (fun H locs hP hD hS => ?_)
      refine lv_iload_n hx hb dX5_goTo_37 rfl (lv_at hl 0 rfl) ?_
      exact rmu_i (v := (-1 : Int32)) (F := (f_X5_goTo sz mo E a1 a2)) (E1 := (mnext_ E a1)) (by unfold f_X5_goTo; rw [if_pos c_1, if_pos c_2]; try rfl) X hP hD hS hAe hr hlk dX5_goTo_38
    ·
      refine lv_aload_n hx hb dX5_goTo_17 rfl (lv_at hl 0 rfl) ?_
      refine lv_aload_n hx hb dX5_goTo_18 rfl (lv_at hl 0 rfl) ?_
      refine gf_X5_30 X hP dX5_goTo_19 ?_
      refine lv_iconst (v := (4 : Int32)) hx hb dX5_goTo_22 (by decide) ?_
      refine lv_iadd hx hb dX5_goTo_23 ?_
      refine go_i (rn_V (ci := 5) (q0 := 0) X (c_X5_become l D q ca sz mo hk E ((mpc E) + (4 : Int32)) hd) ok_X5_become wd_608 ⟨by decide, by decide⟩ hP hD rfl rfl rfl hl.1 rfl (Nat.le_of_ble_eq_true rfl) dX5_goTo_24 ⟨Nat.zero_le _, Nat.zero_le _⟩) hP hD hS hA (fun H locs hP hD hS => ?_)
      refine lv_goto (tgt := 31) hx hb dX5_goTo_27 (by decide) ?_
      refine lv_istore_n (lv' := [(3, .int (f_X5_become sz mo E ((mpc E) + (4 : Int32))).1), (0, .ref (q 0)), (1, .int a1), (2, .int (b2i a2))]) hx hb dX5_goTo_31 rfl hl (by decide) rfl (fun ls hl => ?_)
      refine lv_aload_n hx hb dX5_goTo_32 rfl (lv_at hl 1 rfl) ?_
      refine lv_iload_n hx hb dX5_goTo_33 rfl (lv_at hl 2 rfl) ?_
      refine pf_X5_139 X hP hD hS a1 dX5_goTo_34 (fun H locs hP hD hS => ?_)
      refine lv_iload_n hx hb dX5_goTo_37 rfl (lv_at hl 0 rfl) ?_
      exact rmu_i (v := (f_X5_become sz mo E ((mpc E) + (4 : Int32))).1) (F := (f_X5_goTo sz mo E a1 a2)) (E1 := (mnext_ (f_X5_become sz mo E ((mpc E) + (4 : Int32))).2 a1)) (by unfold f_X5_goTo; rw [if_pos c_1, if_neg c_2]; try rfl) X hP hD hS hAe hr hlk dX5_goTo_38
  ·
    refine lv_aload_n hx hb dX5_goTo_6 rfl (lv_at hl 0 rfl) ?_
    refine lv_iconst (v := (0 : Int32)) hx hb dX5_goTo_7 (by decide) ?_
    refine lv_iload_n hx hb dX5_goTo_8 rfl (lv_at hl 1 rfl) ?_
    refine go_i (rn_V (ci := 5) (q0 := 0) X (c_X5_trap l D q ca sz mo hk E (0 : Int32) a1) ok_X5_trap wd_592 ⟨by decide, by decide⟩ hP hD rfl rfl rfl hl.1 rfl (Nat.le_of_ble_eq_true rfl) dX5_goTo_9 ⟨Nat.zero_le _, Nat.zero_le _⟩) hP hD hS hA (fun H locs hP hD hS => ?_)
    exact rmu_i (v := (f_X5_trap sz mo E (0 : Int32) a1).1) (F := (f_X5_goTo sz mo E a1 a2)) (E1 := (f_X5_trap sz mo E (0 : Int32) a1).2) (by unfold f_X5_goTo; rw [if_neg c_1]; try rfl) X hP hD hS hAe hr hlk dX5_goTo_12
